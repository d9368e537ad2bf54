/-! the model's reading of a text -/
def RdM (t : Int → Int) (T p c : Int) (f : Int → Int) (pl : Int) : Prop := 0 ≤ c ∧ ∃ e0, Nums t T (p + 1) c.toNat e0 f ∧ NumR t T e0 pl (f c)
theorem RdM_0 {t : Int → Int} {T p q v : Int} (h : NumR t T (p + 1) q v) : RdM t T p 0 (fun _ => v) q := ⟨by omega, p + 1, rfl, h⟩
theorem RdM_s {t f : Int → Int} {T p c c' pl q v : Int} (h : RdM t T p c f pl) (hp : pl < T) (hc : t pl = 44) (hv : NumR t T (pl + 1) q v) (hc' : c' = c + 1) : RdM t T p c' (up f c' v) q := by
  obtain ⟨h0, e0, h1, h2⟩ := h
  subst hc'
  refine ⟨by omega, pl + 1, ?_, by rw [up_s]; exact hv⟩
  rw [show (c + 1).toNat = c.toNat + 1 by omega]
  refine ⟨e0, pl, Nums_congr _ _ f _ (fun j j0 j1 => (up_n _ _ (by omega)).symm) h1, ?_, hp, hc, rfl⟩
  rw [up_n _ _ (by omega), Int.toNat_of_nonneg h0]
  exact h2
theorem RdM_end {t f : Int → Int} {T p c pl : Int} (h : RdM t T p c f pl) (h0 : p < T) (h114 : t p = 114) (hp : pl < T) (hc : t pl = 59) : ItemL t T p (c + 1) (pl + 1) f := by
  obtain ⟨c0, e0, h1, h2⟩ := h
  exact ⟨h0, h114, c.toNat, e0, pl, by omega, h1, by rw [Int.toNat_of_nonneg c0]; exact h2, hp, hc, rfl⟩
theorem RdM_fun {t f f' : Int → Int} {T p c pl c' e' : Int} (h : RdM t T p c f pl) (h' : ItemL t T p c' e' f') : (∀ j, 0 ≤ j → j ≤ c → f j = f' j) ∧ pl < T ∧ ((t pl = 59 ∧ c' = c + 1) ∨ (t pl = 44 ∧ c + 1 < c' ∧ ∃ q v, NumR t T (pl + 1) q v)) := by
  have h0' := h'
  obtain ⟨c0, e0, h1, h2⟩ := h
  have hlt := (ItemL_num h0' h1).1
  obtain ⟨-, -, k', e1, q1, g1, g2, g3, g4, g5, -⟩ := h'
  have hck : (c.toNat : Int) = c := Int.toNat_of_nonneg c0
  rcases Nat.lt_trichotomy c.toNat k' with r | r | r
  · obtain ⟨d, hd⟩ := Nat.exists_eq_add_of_lt r
    have g2' : Nums t T (p + 1) ((c.toNat + 1) + d) e1 f' := by rw [show c.toNat + 1 + d = k' by omega]; exact g2
    obtain ⟨x, y9⟩ := Nums_pre d e1 g2'
    have y0 := y9
    obtain ⟨y, q, y1, y2, y3, y4, y5⟩ := y9
    obtain ⟨a, b⟩ := Nums_fun _ _ _ _ _ h1 y1
    subst a
    obtain ⟨a2, b2⟩ := NumR_fun h2 y2
    subst a2
    subst y5
    obtain ⟨-, q9, v9, z1, -⟩ := ItemL_num h0' y0
    refine ⟨fun j j0 j1 => ?_, y3, Or.inr ⟨y4, by omega, q9, v9, z1⟩⟩
    rcases Int.lt_or_le j c with r2 | r2
    · exact b j j0 (by omega)
    · rw [show j = c by omega, b2, hck]
  · subst r
    obtain ⟨a, b⟩ := Nums_fun _ _ _ _ _ h1 g2
    subst a
    obtain ⟨a2, b2⟩ := NumR_fun h2 g3
    subst a2
    refine ⟨fun j j0 j1 => ?_, g4, Or.inl ⟨g5, by omega⟩⟩
    rcases Int.lt_or_le j c with r2 | r2
    · exact b j j0 (by omega)
    · rw [show j = c by omega, b2, hck]
  · omega
/-- an item read into rows of numbers -/
def ItemQ (t : Int → Int) (T p e : Int) (rd rd' : Int → Int) : Prop := ∃ r s n, ItemR t T p e r s n (fun j => rd' (8 * r + 2 + j)) ∧ rd' (8 * r) = s ∧ rd' (8 * r + 1) = n ∧ ∀ k, ¬ (8 * r ≤ k ∧ k < 8 * r + 8) → rd' k = rd k
theorem sTab : ∀ i : Nat, i < 7 → (((i = 2 ∨ 4 < i) → sLow i = 0) ∧ (¬ (i = 2 ∨ 4 < i) → sLow i = 1)) ∧ (((i = 2 ∨ i = 6) → sHigh i = 99) ∧ (i = 4 → sHigh i = 20) ∧ (¬ (i = 2 ∨ i = 6 ∨ i = 4) → sHigh i = 9)) ∧ ((i < 2 → sFew i = 2) ∧ (i = 4 → sFew i = 2) ∧ (i = 6 → sFew i = 0) ∧ (¬ (i < 2 ∨ i = 4 ∨ i = 6) → sFew i = 1)) ∧ ((i = 4 → sMost i = 2) ∧ (i ≠ 4 → sMost i = 6)) := by
  intro i hi
  rcases (show i = 0 ∨ i = 1 ∨ i = 2 ∨ i = 3 ∨ i = 4 ∨ i = 5 ∨ i = 6 by omega) with rfl | rfl | rfl | rfl | rfl | rfl | rfl <;> decide
/-- a register's beginnings, cut to their six places -/
def bgc (rd : Int → Int) (r : Int) : Int → Int := fun j => if 0 ≤ j ∧ j < 6 then rd (8 * r + 2 + j) else 0
theorem bgc_at {rd : Int → Int} {r j : Int} (h : 0 ≤ j ∧ j < 6) : bgc rd r j = rd (8 * r + 2 + j) := if_pos h
theorem bgc_congr {rd rd' : Int → Int} {r : Int} (h : ∀ k, 8 * r ≤ k → k < 8 * r + 8 → rd k = rd' k) : bgc rd r = bgc rd' r := by
  funext j
  unfold bgc
  by_cases q : 0 ≤ j ∧ j < 6
  · rw [if_pos q, if_pos q, h _ (by omega) (by omega)]
  · rw [if_neg q, if_neg q]
def LayM (t : Int → Int) (T : Int) (lw : Int → Int) (k : Nat) (p : Int) (rd : Int → Int) : Prop := ∀ r, 0 ≤ r → r ≤ 3 → LayC t T r (lw (8 * r)).toNat (lw (8 * r + 1)) (bgc lw r) 0 k p (rd (8 * r)).toNat (rd (8 * r + 1)) (bgc rd r) 0
theorem LawR_congr {lw rd : Int → Int} (hh : ∀ k, 0 ≤ k → k < 32 → rd k = lw k) (h : LawR lw) : LawR rd := fun r r0 r1 => by
  have h9 := h r r0 r1
  have hs := sort_n (by omega) h9.2.2
  rw [hh _ (by omega) (by omega), hh (8 * r + 1) (by omega) (by omega)]
  exact ⟨h9.1, h9.2.1, AllowsR_congr (fun j j0 j1 => (hh _ (by omega) (by omega)).symm) h9.2.2⟩
theorem LayM_congr {t lw rd rd' : Int → Int} {T p : Int} {k : Nat} (hh : ∀ k, 0 ≤ k → k < 32 → rd' k = rd k) (h : LayM t T lw k p rd) : LayM t T lw k p rd' := fun r r0 r1 => by
  rw [hh _ (by omega) (by omega), hh (8 * r + 1) (by omega) (by omega), bgc_congr (rd' := rd) (fun k k0 k1 => hh k (by omega) (by omega))]
  exact h r r0 r1
theorem LayM_0 {t lw : Int → Int} {T : Int} : LayM t T lw (0 : Int).toNat 0 lw := fun r r0 r1 => LayC_0
theorem LayM_ch {t lw rd : Int → Int} {T p : Int} {k : Nat} (h : LayM t T lw k p rd) : Chain t T k p := LayC_ch _ _ _ _ _ _ (h 0 (by omega) (by omega))
theorem LayM_s {t lw rd rd' : Int → Int} {T p e k : Int} (hk : 0 ≤ k) (h : LayM t T lw k.toNat p rd) (hl : LawR rd) (hp : p < T) (hI : ItemQ t T p e rd rd') : LayM t T lw (k + 1).toNat e rd' ∧ LawR rd' := by
  obtain ⟨r9, s, n, h1, h2, h3, h4⟩ := hI
  have hb := ItemR_b h1
  refine ⟨fun r r0 r1 => ?_, fun r r0 r1 => ?_⟩
  · by_cases q : r9 = r
    · subst q
      rw [h2, h3]
      exact LayC_y hk (h r9 r0 r1) hp h1 rfl (fun j j0 j1 => bgc_at (by omega))
    · rw [h4 _ (by omega), h4 (8 * r + 1) (by omega), bgc_congr (rd' := rd) (fun k k0 k1 => h4 k (by omega))]
      exact LayC_n hk (h r r0 r1) hp h1 q
  · by_cases q : r9 = r
    · subst q
      obtain ⟨c, f, g1, g2, g3, g4, g5, g6, g7, g8, g9, ga, gb, gc⟩ := h1
      rw [h2, h3]
      exact ⟨g8, g9, gc⟩
    · have h9 := hl r r0 r1
      have hs := sort_n (by omega) h9.2.2
      rw [h4 _ (by omega), h4 (8 * r + 1) (by omega)]
      exact ⟨h9.1, h9.2.1, AllowsR_congr (fun j j0 j1 => (h4 _ (by omega)).symm) h9.2.2⟩
set_option maxHeartbeats 4000000 in
set_option maxRecDepth 100000 in
/-- isItem -/
theorem c_X11_isItem (l : Launch) (G : GG) (x : Nat) (ln : Int) (a1 : Nat) (pl : Int) (a3 : Nat) (a4 : Nat) (ri : Int) (ld : Int) (mn : Int) (a8 : Nat) (a9 : Nat) (nn : Int) (a11 : Nat) (fn : Int) (a13 : Nat) (lm : Int) (a15 : Nat) (a16 : Nat) (a17 : Nat) (a18 : Nat) (a19 : Nat) (a20 : Nat) (t : Int → Int) (rd : Int → Int) (hT : 0 ≤ ln ∧ ln ≤ 120) (ht : BD t) (hrd0 : BD rd) (hpl : 0 ≤ pl ∧ pl < ln) : MQc l yX11_isItem wsX11_isItem 2 G [.ref x] [(x, .inr (9, [.int (iI ln), .ref a1, .int (iI pl), .ref a3, .ref a4, .int (iI ri), .int (iI ld), .int (iI mn), .ref a8, .ref a9, .int (iI nn), .ref a11, .int (iI fn), .ref a13, .int (iI lm), .ref a15, .ref a16, .ref a17, .ref a18, .ref a19, .ref a20])), (a1, .inl (G.2.1 1, 120, .inl (iA t))), (a4, .inl (G.2.1 0, 32, .inl (iA rd)))] (fun r (u : Int × Int × (Int → Int)) => ∃ z : Int, r = some (.int (iI z)) ∧ ((z = 1 ∧ (ItemQ t ln pl u.1 rd u.2.2 ∧ u.2.1 = ri + 1)) ∨ (z = 0 ∧ ∀ e q s n B, ¬ ItemR t ln pl e q s n B)) ∧ (BD u.2.2) ∧ (pl ≤ u.1 ∧ u.1 ≤ ln) ∧ (u.2.1 = ri ∨ u.2.1 = ri + 1)) (fun u => [(x, .inr (9, [.int (iI ln), .ref a1, .int (iI u.1), .ref a3, .ref a4, .int (iI u.2.1), .int (iI ld), .int (iI mn), .ref a8, .ref a9, .int (iI nn), .ref a11, .int (iI fn), .ref a13, .int (iI lm), .ref a15, .ref a16, .ref a17, .ref a18, .ref a19, .ref a20])), (a1, .inl (G.2.1 1, 120, .inl (iA t))), (a4, .inl (G.2.1 0, 32, .inl (iA u.2.2)))]) := by
  refine MQc.start (own := RX11) (by decide) rfl rfl (Nat.le_of_ble_eq_true rfl) ?_
  intro p9 e9 s9 m9 args below meth c9 A Q C hK hW hA hr hlocks hQ ls hl
  have hl : lv_has ls 7 [(0, .ref x)] := hl
  have hin11 : ∀ w ∈ wsX110, w ∈ wsX11_isItem := by decide +kernel
  refine lv_aload_n C.1 C.2.1 dX11_isItem_0 rfl (lv_at hl 0 rfl) ?_
  refine lv_bipush (v := iI 114) C.1 C.2.1 dX11_isItem_1 (by decide +kernel) ?_
  refine z_callR (va_runV (As := [.int (iI 114)]) (rest := []) C (c_X11_is l G x ln a1 pl a3 a4 ri ld mn a8 a9 nn a11 fn a13 lm a15 a16 a17 a18 a19 a20 t 114 hT ht (by first | omega | assumption | (intros; first | rfl | omega | assumption | (and_intros <;> first | rfl | omega | assumption))) (by first | omega | assumption | (intros; first | rfl | omega | assumption | (and_intros <;> first | rfl | omega | assumption))) s9.heap.size) (cwV 1 C.2.2.2.2 gX11_isItem_X11_is rfl rfl rfl (by decide +kernel) ⟨Nat.le_of_ble_eq_true rfl, Nat.le_of_ble_eq_true rfl⟩) (z_preV hK hW hA [0, 1] rfl (by decide) (ci := 9) (q0 := 0) rfl rfl) rfl rfl hl.1 rfl (lv_room (Nat.le_of_ble_eq_true rfl)) dX11_isItem_3 ⟨Nat.zero_le _, Nat.zero_le _⟩) (fun r hp => ?_)
  have hp : ∃ z : Int, r = some (.int (iI z)) ∧ ((z = 1 ∧ (pl < ln ∧ t pl = (114 : Int))) ∨ (z = 0 ∧ ¬ (pl < ln ∧ t pl = (114 : Int)))) := hp
  obtain ⟨z_3, rfl, hz_3_0⟩ := hp
  refine z_if_ne (tgt := 11) C dX11_isItem_6 (by decide) (by omega) (fun c_6 => ?_) (fun c_6 => ?_)
  ·
    refine lv_aload_n C.1 C.2.1 dX11_isItem_11 rfl (lv_at hl 0 rfl) ?_
    refine lv_dup C.1 C.2.1 dX11_isItem_12 rfl ?_
    refine z_get C hK hW hin11 (v := .int (iI pl)) 0 rfl rfl 2 (by decide) (C.2.2.2.2 (.fieldLink RX11 65 "TellingRowsModel" "at" "I") (List.mem_of_getElem? (i := 1) rfl)) (fun _ h9 => h9) rfl dX11_isItem_13 ?_
    refine lv_iconst (v := iI 1) C.1 C.2.1 dX11_isItem_16 rfl ?_
    refine z_iadd C dX11_isItem_17 ?_
    refine z_put C hK hW hin11 tyX11 tyX11_ok nmX11 0 rfl rfl 2 (by decide) (C.2.2.2.2 (.fieldLink RX11 65 "TellingRowsModel" "at" "I") (List.mem_of_getElem? (i := 1) rfl)) (fun _ h9 => h9) rfl rfl rfl (Nat.le_of_ble_eq_true rfl) dX11_isItem_18 (fun H locs hW => ?_)
    have hW : Wd G A s9.heap [(x, .inr (9, [.int (iI ln), .ref a1, .int (iI (pl + 1)), .ref a3, .ref a4, .int (iI ri), .int (iI ld), .int (iI mn), .ref a8, .ref a9, .int (iI nn), .ref a11, .int (iI fn), .ref a13, .int (iI lm), .ref a15, .ref a16, .ref a17, .ref a18, .ref a19, .ref a20])), (a1, .inl (G.2.1 1, 120, .inl (iA t))), (a4, .inl (G.2.1 0, 32, .inl (iA rd)))] H locs := hW
    refine lv_aload_n C.1 C.2.1 dX11_isItem_21 rfl (lv_at hl 0 rfl) ?_
    refine z_call (va_runV (As := []) (rest := []) C (c_X11_oneOrTwo l G x ln a1 (pl + 1) a3 a4 ri ld mn a8 a9 nn a11 fn a13 lm a15 a16 a17 a18 a19 a20 t hT ht (by first | omega | assumption | (intros; first | rfl | omega | assumption | (and_intros <;> first | rfl | omega | assumption))) H.size) (cwV 0 C.2.2.2.2 gX11_isItem_X11_oneOrTwo rfl rfl rfl (by decide +kernel) ⟨Nat.le_of_ble_eq_true rfl, Nat.le_of_ble_eq_true rfl⟩) (z_preV hK hW hA [0, 1] rfl (by decide) (ci := 9) (q0 := 0) rfl rfl) rfl rfl hl.1 rfl (lv_room (Nat.le_of_ble_eq_true rfl)) dX11_isItem_22 ⟨Nat.zero_le _, Nat.zero_le _⟩) hW hA [0, 1] rfl (by decide) (fun _ => rfl) (fun r u H locs hp hW => ?_)
    obtain ⟨pl2_22, rfl⟩ : ∃ q9, q9 = u := ⟨_, rfl⟩
    have hp : ∃ z : Int, r = some (.int (iI z)) ∧ ((0 ≤ z ∧ z ≤ 99 ∧ NumR t ln (pl + 1) pl2_22 z) ∨ (z = -1 ∧ ∀ q v, ¬ NumR t ln (pl + 1) q v)) ∧ ((pl + 1) ≤ pl2_22 ∧ pl2_22 ≤ ln) := hp
    obtain ⟨z_22, rfl, hz_22_0, hz_22_1⟩ := hp
    have hW : Wd G A s9.heap [(x, .inr (9, [.int (iI ln), .ref a1, .int (iI pl2_22), .ref a3, .ref a4, .int (iI ri), .int (iI ld), .int (iI mn), .ref a8, .ref a9, .int (iI nn), .ref a11, .int (iI fn), .ref a13, .int (iI lm), .ref a15, .ref a16, .ref a17, .ref a18, .ref a19, .ref a20])), (a1, .inl (G.2.1 1, 120, .inl (iA t))), (a4, .inl (G.2.1 0, 32, .inl (iA rd)))] H locs := hW
    refine lv_istore_n (lv' := [(1, .int (iI z_22)), (0, .ref x)]) C.1 C.2.1 dX11_isItem_25 rfl hl (by decide) rfl (fun ls hl => ?_)
    refine lv_iload_n C.1 C.2.1 dX11_isItem_26 rfl (lv_at hl 0 rfl) ?_
    refine z_i2l C dX11_isItem_27 (by omega) ?_
    refine lv_lconst (v := lI 0) C.1 C.2.1 dX11_isItem_28 rfl ?_
    refine z_ldc2 (z := 3) C (C.2.2.2.2 (.constantLong RX11 82 (3)) (List.mem_of_getElem? (i := 2) rfl)) (by decide +kernel) dX11_isItem_29 ?_
    refine z_callR (va_runS (As := [.long (lI z_22), .long (lI 0), .long (lI 3)]) (rest := []) C (c_X11_in l G z_22 0 3 (by first | omega | assumption | (intros; first | rfl | omega | assumption | (and_intros <;> first | rfl | omega | assumption))) (by first | omega | assumption | (intros; first | rfl | omega | assumption | (and_intros <;> first | rfl | omega | assumption))) (by first | omega | assumption | (intros; first | rfl | omega | assumption | (and_intros <;> first | rfl | omega | assumption))) H.size) (va_cwS 3 C.2.2.2.2 gX11_isItem_X11_in rfl rfl rfl (by decide +kernel) ⟨Nat.le_of_ble_eq_true rfl, Nat.le_of_ble_eq_true rfl⟩) (z_preS hK hW hA [] rfl (by decide)) rfl rfl hl.1 rfl (lv_room (Nat.le_of_ble_eq_true rfl)) dX11_isItem_32 ⟨Nat.zero_le _, Nat.zero_le _⟩) (fun r hp => ?_)
    have hp : ∃ z : Int, r = some (.int (iI z)) ∧ ((z = 1 ∧ ((0 : Int) ≤ z_22 ∧ z_22 ≤ (3 : Int))) ∨ (z = 0 ∧ ¬ ((0 : Int) ≤ z_22 ∧ z_22 ≤ (3 : Int)))) := hp
    obtain ⟨z_32, rfl, hz_32_0⟩ := hp
    refine z_if_eq (tgt := 47) C dX11_isItem_35 (by decide) (by omega) (fun c_35 => ?_) (fun c_35 => ?_)
    ·
      refine lv_iconst (v := iI 0) C.1 C.2.1 dX11_isItem_47 rfl ?_
      rw [hQ]
      have hP9 : ∃ z : Int, (some (Value.int (iI 0))) = some (.int (iI z)) ∧ ((z = 1 ∧ (ItemQ t ln pl pl2_22 rd rd ∧ ri = ri + 1)) ∨ (z = 0 ∧ ∀ e q s n B, ¬ ItemR t ln pl e q s n B)) ∧ (BD rd) ∧ (pl ≤ pl2_22 ∧ pl2_22 ≤ ln) ∧ (ri = ri ∨ ri = ri + 1) := ⟨_, rfl, (Or.inr ⟨rfl, fun e9 r9 s9 n9 B9 hR9 => by obtain ⟨c9, f9, g1, g2, g3, g4, g5, g6, g7, g8, g9, ga, gb, gc⟩ := hR9; have hz := ItemL_num (k := 0) (e0 := pl + 1) (f := f9) g1 rfl; obtain ⟨-, q8, v8, h8, -⟩ := hz; exact hz_22_0.elim (fun q => by have hF := RdM_fun (RdM_0 q.2.2) g1; have h0 := hF.1 0 (by omega) (by omega); omega) (fun q => q.2 q8 v8 h8)⟩), hrd0, (by first | omega | assumption | (intros; first | rfl | omega | assumption | (and_intros <;> first | rfl | omega | assumption))), (by first | omega | assumption | (intros; first | rfl | omega | assumption | (and_intros <;> first | rfl | omega | assumption)))⟩
      exact z_zret C hr rfl hlocks hW (pl2_22, ri, rd) rfl hP9 dX11_isItem_48
    ·
      refine lv_aload_n C.1 C.2.1 dX11_isItem_38 rfl (lv_at hl 1 rfl) ?_
      refine lv_bipush (v := iI 44) C.1 C.2.1 dX11_isItem_39 (by decide +kernel) ?_
      refine z_callR (va_runV (As := [.int (iI 44)]) (rest := []) C (c_X11_is l G x ln a1 pl2_22 a3 a4 ri ld mn a8 a9 nn a11 fn a13 lm a15 a16 a17 a18 a19 a20 t 44 hT ht (by first | omega | assumption | (intros; first | rfl | omega | assumption | (and_intros <;> first | rfl | omega | assumption))) (by first | omega | assumption | (intros; first | rfl | omega | assumption | (and_intros <;> first | rfl | omega | assumption))) H.size) (cwV 1 C.2.2.2.2 gX11_isItem_X11_is rfl rfl rfl (by decide +kernel) ⟨Nat.le_of_ble_eq_true rfl, Nat.le_of_ble_eq_true rfl⟩) (z_preV hK hW hA [0, 1] rfl (by decide) (ci := 9) (q0 := 0) rfl rfl) rfl rfl hl.1 rfl (lv_room (Nat.le_of_ble_eq_true rfl)) dX11_isItem_41 ⟨Nat.zero_le _, Nat.zero_le _⟩) (fun r hp => ?_)
      have hp : ∃ z : Int, r = some (.int (iI z)) ∧ ((z = 1 ∧ (pl2_22 < ln ∧ t pl2_22 = (44 : Int))) ∨ (z = 0 ∧ ¬ (pl2_22 < ln ∧ t pl2_22 = (44 : Int)))) := hp
      obtain ⟨z_41, rfl, hz_41_0⟩ := hp
      refine z_if_ne (tgt := 49) C dX11_isItem_44 (by decide) (by omega) (fun c_44 => ?_) (fun c_44 => ?_)
      ·
        have hN1 := hz_22_0.elim (fun q => q.2.2) (fun q => by omega)
        have hR0 := RdM_0 hN1
        have hc41 : pl2_22 < ln ∧ t pl2_22 = 44 := by omega
        refine lv_aload_n C.1 C.2.1 dX11_isItem_49 rfl (lv_at hl 1 rfl) ?_
        refine lv_dup C.1 C.2.1 dX11_isItem_50 rfl ?_
        refine z_get C hK hW hin11 (v := .int (iI pl2_22)) 0 rfl rfl 2 (by decide) (C.2.2.2.2 (.fieldLink RX11 65 "TellingRowsModel" "at" "I") (List.mem_of_getElem? (i := 1) rfl)) (fun _ h9 => h9) rfl dX11_isItem_51 ?_
        refine lv_iconst (v := iI 1) C.1 C.2.1 dX11_isItem_54 rfl ?_
        refine z_iadd C dX11_isItem_55 ?_
        refine z_put C hK hW hin11 tyX11 tyX11_ok nmX11 0 rfl rfl 2 (by decide) (C.2.2.2.2 (.fieldLink RX11 65 "TellingRowsModel" "at" "I") (List.mem_of_getElem? (i := 1) rfl)) (fun _ h9 => h9) rfl rfl rfl (Nat.le_of_ble_eq_true rfl) dX11_isItem_56 (fun H locs hW => ?_)
        have hW : Wd G A s9.heap [(x, .inr (9, [.int (iI ln), .ref a1, .int (iI (pl2_22 + 1)), .ref a3, .ref a4, .int (iI ri), .int (iI ld), .int (iI mn), .ref a8, .ref a9, .int (iI nn), .ref a11, .int (iI fn), .ref a13, .int (iI lm), .ref a15, .ref a16, .ref a17, .ref a18, .ref a19, .ref a20])), (a1, .inl (G.2.1 1, 120, .inl (iA t))), (a4, .inl (G.2.1 0, 32, .inl (iA rd)))] H locs := hW
        refine lv_aload_n C.1 C.2.1 dX11_isItem_59 rfl (lv_at hl 1 rfl) ?_
        refine z_call (va_runV (As := []) (rest := []) C (c_X11_oneOrTwo l G x ln a1 (pl2_22 + 1) a3 a4 ri ld mn a8 a9 nn a11 fn a13 lm a15 a16 a17 a18 a19 a20 t hT ht (by first | omega | assumption | (intros; first | rfl | omega | assumption | (and_intros <;> first | rfl | omega | assumption))) H.size) (cwV 0 C.2.2.2.2 gX11_isItem_X11_oneOrTwo rfl rfl rfl (by decide +kernel) ⟨Nat.le_of_ble_eq_true rfl, Nat.le_of_ble_eq_true rfl⟩) (z_preV hK hW hA [0, 1] rfl (by decide) (ci := 9) (q0 := 0) rfl rfl) rfl rfl hl.1 rfl (lv_room (Nat.le_of_ble_eq_true rfl)) dX11_isItem_60 ⟨Nat.zero_le _, Nat.zero_le _⟩) hW hA [0, 1] rfl (by decide) (fun _ => rfl) (fun r u H locs hp hW => ?_)
        obtain ⟨pl2_60, rfl⟩ : ∃ q9, q9 = u := ⟨_, rfl⟩
        have hp : ∃ z : Int, r = some (.int (iI z)) ∧ ((0 ≤ z ∧ z ≤ 99 ∧ NumR t ln (pl2_22 + 1) pl2_60 z) ∨ (z = -1 ∧ ∀ q v, ¬ NumR t ln (pl2_22 + 1) q v)) ∧ ((pl2_22 + 1) ≤ pl2_60 ∧ pl2_60 ≤ ln) := hp
        obtain ⟨z_60, rfl, hz_60_0, hz_60_1⟩ := hp
        have hW : Wd G A s9.heap [(x, .inr (9, [.int (iI ln), .ref a1, .int (iI pl2_60), .ref a3, .ref a4, .int (iI ri), .int (iI ld), .int (iI mn), .ref a8, .ref a9, .int (iI nn), .ref a11, .int (iI fn), .ref a13, .int (iI lm), .ref a15, .ref a16, .ref a17, .ref a18, .ref a19, .ref a20])), (a1, .inl (G.2.1 1, 120, .inl (iA t))), (a4, .inl (G.2.1 0, 32, .inl (iA rd)))] H locs := hW
        refine lv_istore_n (lv' := [(2, .int (iI z_60)), (1, .int (iI z_22)), (0, .ref x)]) C.1 C.2.1 dX11_isItem_63 rfl hl (by decide) rfl (fun ls hl => ?_)
        refine lv_iload_n C.1 C.2.1 dX11_isItem_64 rfl (lv_at hl 0 rfl) ?_
        refine z_i2l C dX11_isItem_65 (by omega) ?_
        refine lv_lconst (v := lI 0) C.1 C.2.1 dX11_isItem_66 rfl ?_
        refine z_ldc2 (z := 6) C (C.2.2.2.2 (.constantLong RX11 84 (6)) (List.mem_of_getElem? (i := 3) rfl)) (by decide +kernel) dX11_isItem_67 ?_
        refine z_callR (va_runS (As := [.long (lI z_60), .long (lI 0), .long (lI 6)]) (rest := []) C (c_X11_in l G z_60 0 6 (by first | omega | assumption | (intros; first | rfl | omega | assumption | (and_intros <;> first | rfl | omega | assumption))) (by first | omega | assumption | (intros; first | rfl | omega | assumption | (and_intros <;> first | rfl | omega | assumption))) (by first | omega | assumption | (intros; first | rfl | omega | assumption | (and_intros <;> first | rfl | omega | assumption))) H.size) (va_cwS 3 C.2.2.2.2 gX11_isItem_X11_in rfl rfl rfl (by decide +kernel) ⟨Nat.le_of_ble_eq_true rfl, Nat.le_of_ble_eq_true rfl⟩) (z_preS hK hW hA [] rfl (by decide)) rfl rfl hl.1 rfl (lv_room (Nat.le_of_ble_eq_true rfl)) dX11_isItem_70 ⟨Nat.zero_le _, Nat.zero_le _⟩) (fun r hp => ?_)
        have hp : ∃ z : Int, r = some (.int (iI z)) ∧ ((z = 1 ∧ ((0 : Int) ≤ z_60 ∧ z_60 ≤ (6 : Int))) ∨ (z = 0 ∧ ¬ ((0 : Int) ≤ z_60 ∧ z_60 ≤ (6 : Int)))) := hp
        obtain ⟨z_70, rfl, hz_70_0⟩ := hp
        refine z_if_ne (tgt := 78) C dX11_isItem_73 (by decide) (by omega) (fun c_73 => ?_) (fun c_73 => ?_)
        ·
          have hN2 := hz_60_0.elim (fun q => q.2.2) (fun q => by omega)
          have hR1 : RdM t ln pl 1 (up (fun _ => z_22) 1 z_60) pl2_60 := RdM_s hR0 hc41.1 hc41.2 hN2 rfl
          have hTab := sTab z_60.toNat (by omega)
          have hLo := hTab.1
          have hHi := hTab.2.1
          have hFe := hTab.2.2.1
          have hMo := hTab.2.2.2
          have h114 : t pl = 114 := by omega
          refine lv_iload_n C.1 C.2.1 dX11_isItem_78 rfl (lv_at hl 0 rfl) ?_
          have cut_127 : ∀ (n9 : Nat) (lo5 : Int) (hi5 : Int) (n : Int) (p1 : Int) (rd1 : Int → Int) (f : Int → Int), (lo5 = sLow z_60.toNat) → (hi5 = sHigh z_60.toNat) → (0 ≤ lo5 ∧ lo5 ≤ 1 ∧ 9 ≤ hi5 ∧ hi5 ≤ 99) → (0 ≤ n ∧ n ≤ 6) → (pl < p1 ∧ p1 ≤ ln) → (BD rd1) → (RdM t ln pl (n + 1) f p1) → (f 0 = z_22 ∧ f 1 = z_60) → (∀ j, 0 ≤ j → j < n → rd1 (8 * z_22 + 2 + j) = f (j + 2)) → (∀ j, 0 ≤ j → j < n → lo5 ≤ f (j + 2) ∧ f (j + 2) ≤ hi5) → (∀ k, ¬ (8 * z_22 ≤ k ∧ k < 8 * z_22 + 8) → rd1 k = rd k) → (ln - p1 < (n9 : Int)) → ∀ (H : Heap) (locs : List Loc) (ls : Array Slot), Wd G A s9.heap [(x, .inr (9, [.int (iI ln), .ref a1, .int (iI p1), .ref a3, .ref a4, .int (iI ri), .int (iI ld), .int (iI mn), .ref a8, .ref a9, .int (iI nn), .ref a11, .int (iI fn), .ref a13, .int (iI lm), .ref a15, .ref a16, .ref a17, .ref a18, .ref a19, .ref a20])), (a1, .inl (G.2.1 1, 120, .inl (iA t))), (a4, .inl (G.2.1 0, 32, .inl (iA rd1)))] H locs → lv_has ls 7 [(2, .int (iI z_60)), (1, .int (iI z_22)), (0, .ref x), (3, .int (iI lo5)), (4, .int (iI hi5)), (5, .int (iI n))] → W p9 l e9 (rmL 2) s9 m9 args below meth c9 H locs 0 0 Q (F0 m9 127 ls []) := by
            intro n9
            induction n9 with
            | zero => intro lo5 hi5 n p1 rd1 f hlo5 hhi5 hlr hn hp1 hrd1 hR hf0 hrd hlh hold hmu; intros; exfalso; omega
            | succ n9 ih_127 =>
              intro lo5 hi5 n p1 rd1 f hlo5 hhi5 hlr hn hp1 hrd1 hR hf0 hrd hlh hold hmu H locs ls hW hl
              refine lv_aload_n C.1 C.2.1 dX11_isItem_127 rfl (lv_at hl 2 rfl) ?_
              refine lv_bipush (v := iI 44) C.1 C.2.1 dX11_isItem_128 (by decide +kernel) ?_
              refine z_callR (va_runV (As := [.int (iI 44)]) (rest := []) C (c_X11_is l G x ln a1 p1 a3 a4 ri ld mn a8 a9 nn a11 fn a13 lm a15 a16 a17 a18 a19 a20 t 44 hT ht (by first | omega | assumption | (intros; first | rfl | omega | assumption | (and_intros <;> first | rfl | omega | assumption))) (by first | omega | assumption | (intros; first | rfl | omega | assumption | (and_intros <;> first | rfl | omega | assumption))) H.size) (cwV 1 C.2.2.2.2 gX11_isItem_X11_is rfl rfl rfl (by decide +kernel) ⟨Nat.le_of_ble_eq_true rfl, Nat.le_of_ble_eq_true rfl⟩) (z_preV hK hW hA [0, 1] rfl (by decide) (ci := 9) (q0 := 0) rfl rfl) rfl rfl hl.1 rfl (lv_room (Nat.le_of_ble_eq_true rfl)) dX11_isItem_130 ⟨Nat.zero_le _, Nat.zero_le _⟩) (fun r hp => ?_)
              have hp : ∃ z : Int, r = some (.int (iI z)) ∧ ((z = 1 ∧ (p1 < ln ∧ t p1 = (44 : Int))) ∨ (z = 0 ∧ ¬ (p1 < ln ∧ t p1 = (44 : Int)))) := hp
              obtain ⟨z_130, rfl, hz_130_0⟩ := hp
              refine z_if_eq (tgt := 197) C dX11_isItem_133 (by decide) (by omega) (fun c_133 => ?_) (fun c_133 => ?_)
              ·
                have cut_278 : ∀ (gd : Int), ((gd = 1 ∧ AllowsR z_60.toNat n (fun j => f (j + 2))) ∨ (gd = 0 ∧ ¬ AllowsR z_60.toNat n (fun j => f (j + 2)))) → ∀ (H : Heap) (locs : List Loc) (ls : Array Slot), Wd G A s9.heap [(x, .inr (9, [.int (iI ln), .ref a1, .int (iI p1), .ref a3, .ref a4, .int (iI ri), .int (iI ld), .int (iI mn), .ref a8, .ref a9, .int (iI nn), .ref a11, .int (iI fn), .ref a13, .int (iI lm), .ref a15, .ref a16, .ref a17, .ref a18, .ref a19, .ref a20])), (a1, .inl (G.2.1 1, 120, .inl (iA t))), (a4, .inl (G.2.1 0, 32, .inl (iA rd1)))] H locs → lv_has ls 7 [(2, .int (iI z_60)), (1, .int (iI z_22)), (0, .ref x), (3, .int (iI lo5)), (4, .int (iI hi5)), (5, .int (iI n)), (6, .int (iI gd))] → W p9 l e9 (rmL 2) s9 m9 args below meth c9 H locs 0 0 Q (F0 m9 278 ls []) := by
                  intro gd hgd H locs ls hW hl
                  have hgd1 : gd = 1 ∨ gd = 0 := hgd.elim (fun q => Or.inl q.1) (fun q => Or.inr q.1)
                  refine lv_iload C.1 C.2.1 dX11_isItem_278 (lv_at hl 6 rfl) ?_
                  refine z_if_eq (tgt := 292) C dX11_isItem_280 (by decide) (by omega) (fun c_280 => ?_) (fun c_280 => ?_)
                  ·
                    refine lv_iconst (v := iI 0) C.1 C.2.1 dX11_isItem_292 rfl ?_
                    rw [hQ]
                    have hP9 : ∃ z : Int, (some (Value.int (iI 0))) = some (.int (iI z)) ∧ ((z = 1 ∧ (ItemQ t ln pl p1 rd rd1 ∧ ri = ri + 1)) ∨ (z = 0 ∧ ∀ e q s n B, ¬ ItemR t ln pl e q s n B)) ∧ (BD rd1) ∧ (pl ≤ p1 ∧ p1 ≤ ln) ∧ (ri = ri ∨ ri = ri + 1) := ⟨_, rfl, (Or.inr ⟨rfl, fun e9 r9 s9 n9 B9 hR9 => by obtain ⟨c9, f9, g1, g2, g3, g4, g5, g6, g7, g8, g9, ga, gb, gc⟩ := hR9; have hF := RdM_fun hR g1; obtain ⟨f1, f2, f3⟩ := hF; have h3 := f1 1 (by omega) (by omega); have hcc : t p1 = 59 ∧ c9 = n + 1 + 1 := f3.elim id (fun q => by omega); first | omega | (refine (hgd.elim (fun q => absurd q.1 (by omega)) (fun q => q.2)) ?_; rw [show z_60.toNat = s9.toNat by omega, show n = n9 by omega]; exact AllowsR_congr (fun j j0 j1 => by rw [gb j j0 j1]; exact (f1 (j + 2) (by omega) (by omega)).symm) gc)⟩), hrd1, (by first | omega | assumption | (intros; first | rfl | omega | assumption | (and_intros <;> first | rfl | omega | assumption))), (by first | omega | assumption | (intros; first | rfl | omega | assumption | (and_intros <;> first | rfl | omega | assumption)))⟩
                    exact z_zret C hr rfl hlocks hW (p1, ri, rd1) rfl hP9 dX11_isItem_293
                  ·
                    refine lv_aload_n C.1 C.2.1 dX11_isItem_283 rfl (lv_at hl 2 rfl) ?_
                    refine lv_bipush (v := iI 59) C.1 C.2.1 dX11_isItem_284 (by decide +kernel) ?_
                    refine z_callR (va_runV (As := [.int (iI 59)]) (rest := []) C (c_X11_is l G x ln a1 p1 a3 a4 ri ld mn a8 a9 nn a11 fn a13 lm a15 a16 a17 a18 a19 a20 t 59 hT ht (by first | omega | assumption | (intros; first | rfl | omega | assumption | (and_intros <;> first | rfl | omega | assumption))) (by first | omega | assumption | (intros; first | rfl | omega | assumption | (and_intros <;> first | rfl | omega | assumption))) H.size) (cwV 1 C.2.2.2.2 gX11_isItem_X11_is rfl rfl rfl (by decide +kernel) ⟨Nat.le_of_ble_eq_true rfl, Nat.le_of_ble_eq_true rfl⟩) (z_preV hK hW hA [0, 1] rfl (by decide) (ci := 9) (q0 := 0) rfl rfl) rfl rfl hl.1 rfl (lv_room (Nat.le_of_ble_eq_true rfl)) dX11_isItem_286 ⟨Nat.zero_le _, Nat.zero_le _⟩) (fun r hp => ?_)
                    have hp : ∃ z : Int, r = some (.int (iI z)) ∧ ((z = 1 ∧ (p1 < ln ∧ t p1 = (59 : Int))) ∨ (z = 0 ∧ ¬ (p1 < ln ∧ t p1 = (59 : Int)))) := hp
                    obtain ⟨z_286, rfl, hz_286_0⟩ := hp
                    refine z_if_ne (tgt := 294) C dX11_isItem_289 (by decide) (by omega) (fun c_289 => ?_) (fun c_289 => ?_)
                    ·
                      refine lv_aload_n C.1 C.2.1 dX11_isItem_294 rfl (lv_at hl 2 rfl) ?_
                      refine lv_dup C.1 C.2.1 dX11_isItem_295 rfl ?_
                      refine z_get C hK hW hin11 (v := .int (iI p1)) 0 rfl rfl 2 (by decide) (C.2.2.2.2 (.fieldLink RX11 65 "TellingRowsModel" "at" "I") (List.mem_of_getElem? (i := 1) rfl)) (fun _ h9 => h9) rfl dX11_isItem_296 ?_
                      refine lv_iconst (v := iI 1) C.1 C.2.1 dX11_isItem_299 rfl ?_
                      refine z_iadd C dX11_isItem_300 ?_
                      refine z_put C hK hW hin11 tyX11 tyX11_ok nmX11 0 rfl rfl 2 (by decide) (C.2.2.2.2 (.fieldLink RX11 65 "TellingRowsModel" "at" "I") (List.mem_of_getElem? (i := 1) rfl)) (fun _ h9 => h9) rfl rfl rfl (Nat.le_of_ble_eq_true rfl) dX11_isItem_301 (fun H locs hW => ?_)
                      have hW : Wd G A s9.heap [(x, .inr (9, [.int (iI ln), .ref a1, .int (iI (p1 + 1)), .ref a3, .ref a4, .int (iI ri), .int (iI ld), .int (iI mn), .ref a8, .ref a9, .int (iI nn), .ref a11, .int (iI fn), .ref a13, .int (iI lm), .ref a15, .ref a16, .ref a17, .ref a18, .ref a19, .ref a20])), (a1, .inl (G.2.1 1, 120, .inl (iA t))), (a4, .inl (G.2.1 0, 32, .inl (iA rd1)))] H locs := hW
                      refine lv_aload_n C.1 C.2.1 dX11_isItem_304 rfl (lv_at hl 2 rfl) ?_
                      refine z_get C hK hW hin11 (v := .ref a4) 0 rfl rfl 4 (by decide) (C.2.2.2.2 (.fieldLink RX11 17 "TellingRowsModel" "read" "[I") (List.mem_of_getElem? (i := 4) rfl)) (fun _ h9 => h9) rfl dX11_isItem_305 ?_
                      refine lv_bipush (v := iI 8) C.1 C.2.1 dX11_isItem_308 (by decide +kernel) ?_
                      refine lv_iload_n C.1 C.2.1 dX11_isItem_310 rfl (lv_at hl 1 rfl) ?_
                      refine z_imul C dX11_isItem_311 ?_
                      refine lv_iload_n C.1 C.2.1 dX11_isItem_312 rfl (lv_at hl 0 rfl) ?_
                      refine z_iast C hK hW 2 rfl (by omega) (by omega) dX11_isItem_313 (fun H locs hW => ?_)
                      have hbd_313 : BD (up rd1 (8 * z_22) z_60) := BD.up hrd1 (by omega)
                      have hW : Wd G A s9.heap [(x, .inr (9, [.int (iI ln), .ref a1, .int (iI (p1 + 1)), .ref a3, .ref a4, .int (iI ri), .int (iI ld), .int (iI mn), .ref a8, .ref a9, .int (iI nn), .ref a11, .int (iI fn), .ref a13, .int (iI lm), .ref a15, .ref a16, .ref a17, .ref a18, .ref a19, .ref a20])), (a1, .inl (G.2.1 1, 120, .inl (iA t))), (a4, .inl (G.2.1 0, 32, .inl (iA (up rd1 (8 * z_22) z_60))))] H locs := hW
                      refine lv_aload_n C.1 C.2.1 dX11_isItem_314 rfl (lv_at hl 2 rfl) ?_
                      refine z_get C hK hW hin11 (v := .ref a4) 0 rfl rfl 4 (by decide) (C.2.2.2.2 (.fieldLink RX11 17 "TellingRowsModel" "read" "[I") (List.mem_of_getElem? (i := 4) rfl)) (fun _ h9 => h9) rfl dX11_isItem_315 ?_
                      refine lv_bipush (v := iI 8) C.1 C.2.1 dX11_isItem_318 (by decide +kernel) ?_
                      refine lv_iload_n C.1 C.2.1 dX11_isItem_320 rfl (lv_at hl 1 rfl) ?_
                      refine z_imul C dX11_isItem_321 ?_
                      refine lv_iconst (v := iI 1) C.1 C.2.1 dX11_isItem_322 rfl ?_
                      refine z_iadd C dX11_isItem_323 ?_
                      refine lv_iload C.1 C.2.1 dX11_isItem_324 (lv_at hl 5 rfl) ?_
                      refine z_iast C hK hW 2 rfl (by omega) (by omega) dX11_isItem_326 (fun H locs hW => ?_)
                      have hbd_326 : BD (up (up rd1 (8 * z_22) z_60) ((8 * z_22) + 1) n) := BD.up hbd_313 (by omega)
                      have hW : Wd G A s9.heap [(x, .inr (9, [.int (iI ln), .ref a1, .int (iI (p1 + 1)), .ref a3, .ref a4, .int (iI ri), .int (iI ld), .int (iI mn), .ref a8, .ref a9, .int (iI nn), .ref a11, .int (iI fn), .ref a13, .int (iI lm), .ref a15, .ref a16, .ref a17, .ref a18, .ref a19, .ref a20])), (a1, .inl (G.2.1 1, 120, .inl (iA t))), (a4, .inl (G.2.1 0, 32, .inl (iA (up (up rd1 (8 * z_22) z_60) ((8 * z_22) + 1) n))))] H locs := hW
                      refine lv_aload_n C.1 C.2.1 dX11_isItem_327 rfl (lv_at hl 2 rfl) ?_
                      refine lv_dup C.1 C.2.1 dX11_isItem_328 rfl ?_
                      refine z_get C hK hW hin11 (v := .int (iI ri)) 0 rfl rfl 5 (by decide) (C.2.2.2.2 (.fieldLink RX11 86 "TellingRowsModel" "readItems" "I") (List.mem_of_getElem? (i := 5) rfl)) (fun _ h9 => h9) rfl dX11_isItem_329 ?_
                      refine lv_iconst (v := iI 1) C.1 C.2.1 dX11_isItem_332 rfl ?_
                      refine z_iadd C dX11_isItem_333 ?_
                      refine z_put C hK hW hin11 tyX11 tyX11_ok nmX11 0 rfl rfl 5 (by decide) (C.2.2.2.2 (.fieldLink RX11 86 "TellingRowsModel" "readItems" "I") (List.mem_of_getElem? (i := 5) rfl)) (fun _ h9 => h9) rfl rfl rfl (Nat.le_of_ble_eq_true rfl) dX11_isItem_334 (fun H locs hW => ?_)
                      have hW : Wd G A s9.heap [(x, .inr (9, [.int (iI ln), .ref a1, .int (iI (p1 + 1)), .ref a3, .ref a4, .int (iI (ri + 1)), .int (iI ld), .int (iI mn), .ref a8, .ref a9, .int (iI nn), .ref a11, .int (iI fn), .ref a13, .int (iI lm), .ref a15, .ref a16, .ref a17, .ref a18, .ref a19, .ref a20])), (a1, .inl (G.2.1 1, 120, .inl (iA t))), (a4, .inl (G.2.1 0, 32, .inl (iA (up (up rd1 (8 * z_22) z_60) ((8 * z_22) + 1) n))))] H locs := hW
                      refine lv_iconst (v := iI 1) C.1 C.2.1 dX11_isItem_337 rfl ?_
                      rw [hQ]
                      have hP9 : ∃ z : Int, (some (Value.int (iI 1))) = some (.int (iI z)) ∧ ((z = 1 ∧ (ItemQ t ln pl (p1 + 1) rd (up (up rd1 (8 * z_22) z_60) ((8 * z_22) + 1) n) ∧ (ri + 1) = ri + 1)) ∨ (z = 0 ∧ ∀ e q s n B, ¬ ItemR t ln pl e q s n B)) ∧ (BD (up (up rd1 (8 * z_22) z_60) ((8 * z_22) + 1) n)) ∧ (pl ≤ (p1 + 1) ∧ (p1 + 1) ≤ ln) ∧ ((ri + 1) = ri ∨ (ri + 1) = ri + 1) := ⟨_, rfl, (Or.inl ⟨rfl, ⟨z_22, z_60, n, ⟨n + 1 + 1, f, RdM_end hR hpl.2 h114 (by omega) (by omega), by omega, by omega, hf0.1, by omega, by omega, hf0.2, by omega, by omega, by omega, fun j j0 j1 => by show up (up rd1 (8 * z_22) z_60) (8 * z_22 + 1) n (8 * z_22 + 2 + j) = _; rw [up_n _ _ (by omega), up_n _ _ (by omega)]; exact hrd j j0 j1, AllowsR_congr (fun j j0 j1 => by show f (j + 2) = up (up rd1 (8 * z_22) z_60) (8 * z_22 + 1) n (8 * z_22 + 2 + j); rw [up_n _ _ (by omega), up_n _ _ (by omega)]; exact (hrd j j0 j1).symm) (hgd.elim (fun q => q.2) (fun q => absurd q.1 c_280))⟩, by rw [up_n _ _ (by omega), up_s], by rw [up_s], fun k k0 => by rw [up_n _ _ (by omega), up_n _ _ (by omega)]; exact hold k k0⟩, rfl⟩), hbd_326, (by first | omega | assumption | (intros; first | rfl | omega | assumption | (and_intros <;> first | rfl | omega | assumption))), (by first | omega | assumption | (intros; first | rfl | omega | assumption | (and_intros <;> first | rfl | omega | assumption)))⟩
                      exact z_zret C hr rfl hlocks hW (p1 + 1, ri + 1, (up (up rd1 (8 * z_22) z_60) ((8 * z_22) + 1) n)) rfl hP9 dX11_isItem_338
                    ·
                      refine lv_iconst (v := iI 0) C.1 C.2.1 dX11_isItem_292 rfl ?_
                      rw [hQ]
                      have hP9 : ∃ z : Int, (some (Value.int (iI 0))) = some (.int (iI z)) ∧ ((z = 1 ∧ (ItemQ t ln pl p1 rd rd1 ∧ ri = ri + 1)) ∨ (z = 0 ∧ ∀ e q s n B, ¬ ItemR t ln pl e q s n B)) ∧ (BD rd1) ∧ (pl ≤ p1 ∧ p1 ≤ ln) ∧ (ri = ri ∨ ri = ri + 1) := ⟨_, rfl, (Or.inr ⟨rfl, fun e9 r9 s9 n9 B9 hR9 => by obtain ⟨c9, f9, g1, g2, g3, g4, g5, g6, g7, g8, g9, ga, gb, gc⟩ := hR9; have hF := RdM_fun hR g1; obtain ⟨f1, f2, f3⟩ := hF; have h3 := f1 1 (by omega) (by omega); have hcc : t p1 = 59 ∧ c9 = n + 1 + 1 := f3.elim id (fun q => by omega); first | omega | (refine (hgd.elim (fun q => absurd q.1 (by omega)) (fun q => q.2)) ?_; rw [show z_60.toNat = s9.toNat by omega, show n = n9 by omega]; exact AllowsR_congr (fun j j0 j1 => by rw [gb j j0 j1]; exact (f1 (j + 2) (by omega) (by omega)).symm) gc)⟩), hrd1, (by first | omega | assumption | (intros; first | rfl | omega | assumption | (and_intros <;> first | rfl | omega | assumption))), (by first | omega | assumption | (intros; first | rfl | omega | assumption | (and_intros <;> first | rfl | omega | assumption)))⟩
                      exact z_zret C hr rfl hlocks hW (p1, ri, rd1) rfl hP9 dX11_isItem_293
                refine lv_iload_n C.1 C.2.1 dX11_isItem_197 rfl (lv_at hl 0 rfl) ?_
                refine lv_iconst (v := iI 2) C.1 C.2.1 dX11_isItem_198 rfl ?_
                refine z_icmp_ge (tgt := 216) C dX11_isItem_199 (by decide) (by omega) (fun c_199 => ?_) (fun c_199 => ?_)
                ·
                  refine lv_iload_n C.1 C.2.1 dX11_isItem_216 rfl (lv_at hl 0 rfl) ?_
                  refine lv_iconst (v := iI 4) C.1 C.2.1 dX11_isItem_217 rfl ?_
                  refine z_icmp_ne (tgt := 260) C dX11_isItem_218 (by decide) (by omega) (fun c_218 => ?_) (fun c_218 => ?_)
                  ·
                    refine lv_iload_n C.1 C.2.1 dX11_isItem_260 rfl (lv_at hl 0 rfl) ?_
                    refine lv_bipush (v := iI 6) C.1 C.2.1 dX11_isItem_261 (by decide +kernel) ?_
                    refine z_icmp_eq (tgt := 271) C dX11_isItem_263 (by decide) (by omega) (fun c_263 => ?_) (fun c_263 => ?_)
                    ·
                      refine lv_iconst (v := iI 1) C.1 C.2.1 dX11_isItem_271 rfl ?_
                      refine lv_goto (tgt := 276) C.1 C.2.1 dX11_isItem_272 (by decide) ?_
                      refine lv_istore (lv' := [(6, .int (iI 1)), (2, .int (iI z_60)), (1, .int (iI z_22)), (0, .ref x), (3, .int (iI lo5)), (4, .int (iI hi5)), (5, .int (iI n))]) C.1 C.2.1 dX11_isItem_276 hl (by decide) rfl (fun ls hl => ?_)
                      exact cut_278 1 (by first | exact Or.inl ⟨rfl, by omega, by omega, fun j j0 j1 => by have := hlh j j0 j1; show sLow z_60.toNat ≤ f (j + 2) ∧ f (j + 2) ≤ sHigh z_60.toNat; omega, fun q9 => by first | omega | (show f 2 < f 3; omega)⟩ | exact Or.inr ⟨rfl, fun hA => by have a1 := hA.1; have a2 := hA.2.1; have a4 : z_60.toNat = 4 → f 2 < f 3 := hA.2.2.2; omega⟩) _ _ _ hW (lv_sub hl [1, 2, 3, 4, 5, 6, 0] rfl)
                    ·
                      refine lv_iload C.1 C.2.1 dX11_isItem_266 (lv_at hl 5 rfl) ?_
                      refine z_if_le (tgt := 275) C dX11_isItem_268 (by decide) (by omega) (fun c_268 => ?_) (fun c_268 => ?_)
                      ·
                        refine lv_iconst (v := iI 0) C.1 C.2.1 dX11_isItem_275 rfl ?_
                        refine lv_istore (lv' := [(6, .int (iI 0)), (2, .int (iI z_60)), (1, .int (iI z_22)), (0, .ref x), (3, .int (iI lo5)), (4, .int (iI hi5)), (5, .int (iI n))]) C.1 C.2.1 dX11_isItem_276 hl (by decide) rfl (fun ls hl => ?_)
                        exact cut_278 0 (by first | exact Or.inl ⟨rfl, by omega, by omega, fun j j0 j1 => by have := hlh j j0 j1; show sLow z_60.toNat ≤ f (j + 2) ∧ f (j + 2) ≤ sHigh z_60.toNat; omega, fun q9 => by first | omega | (show f 2 < f 3; omega)⟩ | exact Or.inr ⟨rfl, fun hA => by have a1 := hA.1; have a2 := hA.2.1; have a4 : z_60.toNat = 4 → f 2 < f 3 := hA.2.2.2; omega⟩) _ _ _ hW (lv_sub hl [1, 2, 3, 4, 5, 6, 0] rfl)
                      ·
                        refine lv_iconst (v := iI 1) C.1 C.2.1 dX11_isItem_271 rfl ?_
                        refine lv_goto (tgt := 276) C.1 C.2.1 dX11_isItem_272 (by decide) ?_
                        refine lv_istore (lv' := [(6, .int (iI 1)), (2, .int (iI z_60)), (1, .int (iI z_22)), (0, .ref x), (3, .int (iI lo5)), (4, .int (iI hi5)), (5, .int (iI n))]) C.1 C.2.1 dX11_isItem_276 hl (by decide) rfl (fun ls hl => ?_)
                        exact cut_278 1 (by first | exact Or.inl ⟨rfl, by omega, by omega, fun j j0 j1 => by have := hlh j j0 j1; show sLow z_60.toNat ≤ f (j + 2) ∧ f (j + 2) ≤ sHigh z_60.toNat; omega, fun q9 => by first | omega | (show f 2 < f 3; omega)⟩ | exact Or.inr ⟨rfl, fun hA => by have a1 := hA.1; have a2 := hA.2.1; have a4 : z_60.toNat = 4 → f 2 < f 3 := hA.2.2.2; omega⟩) _ _ _ hW (lv_sub hl [1, 2, 3, 4, 5, 6, 0] rfl)
                  ·
                    refine lv_iload C.1 C.2.1 dX11_isItem_221 (lv_at hl 5 rfl) ?_
                    refine lv_iconst (v := iI 2) C.1 C.2.1 dX11_isItem_223 rfl ?_
                    refine z_icmp_ne (tgt := 256) C dX11_isItem_224 (by decide) (by omega) (fun c_224 => ?_) (fun c_224 => ?_)
                    ·
                      refine lv_iconst (v := iI 0) C.1 C.2.1 dX11_isItem_256 rfl ?_
                      refine lv_goto (tgt := 276) C.1 C.2.1 dX11_isItem_257 (by decide) ?_
                      refine lv_istore (lv' := [(6, .int (iI 0)), (2, .int (iI z_60)), (1, .int (iI z_22)), (0, .ref x), (3, .int (iI lo5)), (4, .int (iI hi5)), (5, .int (iI n))]) C.1 C.2.1 dX11_isItem_276 hl (by decide) rfl (fun ls hl => ?_)
                      exact cut_278 0 (by first | exact Or.inl ⟨rfl, by omega, by omega, fun j j0 j1 => by have := hlh j j0 j1; show sLow z_60.toNat ≤ f (j + 2) ∧ f (j + 2) ≤ sHigh z_60.toNat; omega, fun q9 => by first | omega | (show f 2 < f 3; omega)⟩ | exact Or.inr ⟨rfl, fun hA => by have a1 := hA.1; have a2 := hA.2.1; have a4 : z_60.toNat = 4 → f 2 < f 3 := hA.2.2.2; omega⟩) _ _ _ hW (lv_sub hl [1, 2, 3, 4, 5, 6, 0] rfl)
                    ·
                      refine lv_aload_n C.1 C.2.1 dX11_isItem_227 rfl (lv_at hl 2 rfl) ?_
                      refine z_get C hK hW hin11 (v := .ref a4) 0 rfl rfl 4 (by decide) (C.2.2.2.2 (.fieldLink RX11 17 "TellingRowsModel" "read" "[I") (List.mem_of_getElem? (i := 4) rfl)) (fun _ h9 => h9) rfl dX11_isItem_228 ?_
                      refine lv_bipush (v := iI 8) C.1 C.2.1 dX11_isItem_231 (by decide +kernel) ?_
                      refine lv_iload_n C.1 C.2.1 dX11_isItem_233 rfl (lv_at hl 1 rfl) ?_
                      refine z_imul C dX11_isItem_234 ?_
                      refine lv_iconst (v := iI 3) C.1 C.2.1 dX11_isItem_235 rfl ?_
                      refine z_iadd C dX11_isItem_236 ?_
                      refine z_iald C hK hW 2 rfl (by omega) (by omega) dX11_isItem_237 ?_
                      have hb_237 := hrd1 ((8 * z_22) + 3)
                      have e3 : rd1 (8 * z_22 + 3) = f 3 := by have h := hrd 1 (by omega) (by omega); rw [show 8 * z_22 + 2 + 1 = 8 * z_22 + 3 by omega] at h; exact h
                      have l3 := hlh 1 (by omega) (by omega)
                      refine lv_aload_n C.1 C.2.1 dX11_isItem_238 rfl (lv_at hl 2 rfl) ?_
                      refine z_get C hK hW hin11 (v := .ref a4) 0 rfl rfl 4 (by decide) (C.2.2.2.2 (.fieldLink RX11 17 "TellingRowsModel" "read" "[I") (List.mem_of_getElem? (i := 4) rfl)) (fun _ h9 => h9) rfl dX11_isItem_239 ?_
                      refine lv_bipush (v := iI 8) C.1 C.2.1 dX11_isItem_242 (by decide +kernel) ?_
                      refine lv_iload_n C.1 C.2.1 dX11_isItem_244 rfl (lv_at hl 1 rfl) ?_
                      refine z_imul C dX11_isItem_245 ?_
                      refine lv_iconst (v := iI 2) C.1 C.2.1 dX11_isItem_246 rfl ?_
                      refine z_iadd C dX11_isItem_247 ?_
                      refine z_iald C hK hW 2 rfl (by omega) (by omega) dX11_isItem_248 ?_
                      have hb_248 := hrd1 ((8 * z_22) + 2)
                      have e2 : rd1 (8 * z_22 + 2) = f 2 := by have h := hrd 0 (by omega) (by omega); rw [show 8 * z_22 + 2 + 0 = 8 * z_22 + 2 by omega] at h; exact h
                      refine z_icmp_le (tgt := 256) C dX11_isItem_249 (by decide) (by omega) (fun c_249 => ?_) (fun c_249 => ?_)
                      ·
                        refine lv_iconst (v := iI 0) C.1 C.2.1 dX11_isItem_256 rfl ?_
                        refine lv_goto (tgt := 276) C.1 C.2.1 dX11_isItem_257 (by decide) ?_
                        refine lv_istore (lv' := [(6, .int (iI 0)), (2, .int (iI z_60)), (1, .int (iI z_22)), (0, .ref x), (3, .int (iI lo5)), (4, .int (iI hi5)), (5, .int (iI n))]) C.1 C.2.1 dX11_isItem_276 hl (by decide) rfl (fun ls hl => ?_)
                        exact cut_278 0 (by first | exact Or.inl ⟨rfl, by omega, by omega, fun j j0 j1 => by have := hlh j j0 j1; show sLow z_60.toNat ≤ f (j + 2) ∧ f (j + 2) ≤ sHigh z_60.toNat; omega, fun q9 => by first | omega | (show f 2 < f 3; omega)⟩ | exact Or.inr ⟨rfl, fun hA => by have a1 := hA.1; have a2 := hA.2.1; have a4 : z_60.toNat = 4 → f 2 < f 3 := hA.2.2.2; omega⟩) _ _ _ hW (lv_sub hl [1, 2, 3, 4, 5, 6, 0] rfl)
                      ·
                        refine lv_iconst (v := iI 1) C.1 C.2.1 dX11_isItem_252 rfl ?_
                        refine lv_goto (tgt := 276) C.1 C.2.1 dX11_isItem_253 (by decide) ?_
                        refine lv_istore (lv' := [(6, .int (iI 1)), (2, .int (iI z_60)), (1, .int (iI z_22)), (0, .ref x), (3, .int (iI lo5)), (4, .int (iI hi5)), (5, .int (iI n))]) C.1 C.2.1 dX11_isItem_276 hl (by decide) rfl (fun ls hl => ?_)
                        exact cut_278 1 (by first | exact Or.inl ⟨rfl, by omega, by omega, fun j j0 j1 => by have := hlh j j0 j1; show sLow z_60.toNat ≤ f (j + 2) ∧ f (j + 2) ≤ sHigh z_60.toNat; omega, fun q9 => by first | omega | (show f 2 < f 3; omega)⟩ | exact Or.inr ⟨rfl, fun hA => by have a1 := hA.1; have a2 := hA.2.1; have a4 : z_60.toNat = 4 → f 2 < f 3 := hA.2.2.2; omega⟩) _ _ _ hW (lv_sub hl [1, 2, 3, 4, 5, 6, 0] rfl)
                ·
                  refine lv_iload C.1 C.2.1 dX11_isItem_202 (lv_at hl 5 rfl) ?_
                  refine lv_iconst (v := iI 1) C.1 C.2.1 dX11_isItem_204 rfl ?_
                  refine z_icmp_le (tgt := 212) C dX11_isItem_205 (by decide) (by omega) (fun c_205 => ?_) (fun c_205 => ?_)
                  ·
                    refine lv_iconst (v := iI 0) C.1 C.2.1 dX11_isItem_212 rfl ?_
                    refine lv_goto (tgt := 276) C.1 C.2.1 dX11_isItem_213 (by decide) ?_
                    refine lv_istore (lv' := [(6, .int (iI 0)), (2, .int (iI z_60)), (1, .int (iI z_22)), (0, .ref x), (3, .int (iI lo5)), (4, .int (iI hi5)), (5, .int (iI n))]) C.1 C.2.1 dX11_isItem_276 hl (by decide) rfl (fun ls hl => ?_)
                    exact cut_278 0 (by first | exact Or.inl ⟨rfl, by omega, by omega, fun j j0 j1 => by have := hlh j j0 j1; show sLow z_60.toNat ≤ f (j + 2) ∧ f (j + 2) ≤ sHigh z_60.toNat; omega, fun q9 => by first | omega | (show f 2 < f 3; omega)⟩ | exact Or.inr ⟨rfl, fun hA => by have a1 := hA.1; have a2 := hA.2.1; have a4 : z_60.toNat = 4 → f 2 < f 3 := hA.2.2.2; omega⟩) _ _ _ hW (lv_sub hl [1, 2, 3, 4, 5, 6, 0] rfl)
                  ·
                    refine lv_iconst (v := iI 1) C.1 C.2.1 dX11_isItem_208 rfl ?_
                    refine lv_goto (tgt := 276) C.1 C.2.1 dX11_isItem_209 (by decide) ?_
                    refine lv_istore (lv' := [(6, .int (iI 1)), (2, .int (iI z_60)), (1, .int (iI z_22)), (0, .ref x), (3, .int (iI lo5)), (4, .int (iI hi5)), (5, .int (iI n))]) C.1 C.2.1 dX11_isItem_276 hl (by decide) rfl (fun ls hl => ?_)
                    exact cut_278 1 (by first | exact Or.inl ⟨rfl, by omega, by omega, fun j j0 j1 => by have := hlh j j0 j1; show sLow z_60.toNat ≤ f (j + 2) ∧ f (j + 2) ≤ sHigh z_60.toNat; omega, fun q9 => by first | omega | (show f 2 < f 3; omega)⟩ | exact Or.inr ⟨rfl, fun hA => by have a1 := hA.1; have a2 := hA.2.1; have a4 : z_60.toNat = 4 → f 2 < f 3 := hA.2.2.2; omega⟩) _ _ _ hW (lv_sub hl [1, 2, 3, 4, 5, 6, 0] rfl)
              ·
                refine lv_aload_n C.1 C.2.1 dX11_isItem_136 rfl (lv_at hl 2 rfl) ?_
                refine lv_dup C.1 C.2.1 dX11_isItem_137 rfl ?_
                refine z_get C hK hW hin11 (v := .int (iI p1)) 0 rfl rfl 2 (by decide) (C.2.2.2.2 (.fieldLink RX11 65 "TellingRowsModel" "at" "I") (List.mem_of_getElem? (i := 1) rfl)) (fun _ h9 => h9) rfl dX11_isItem_138 ?_
                refine lv_iconst (v := iI 1) C.1 C.2.1 dX11_isItem_141 rfl ?_
                refine z_iadd C dX11_isItem_142 ?_
                refine z_put C hK hW hin11 tyX11 tyX11_ok nmX11 0 rfl rfl 2 (by decide) (C.2.2.2.2 (.fieldLink RX11 65 "TellingRowsModel" "at" "I") (List.mem_of_getElem? (i := 1) rfl)) (fun _ h9 => h9) rfl rfl rfl (Nat.le_of_ble_eq_true rfl) dX11_isItem_143 (fun H locs hW => ?_)
                have hW : Wd G A s9.heap [(x, .inr (9, [.int (iI ln), .ref a1, .int (iI (p1 + 1)), .ref a3, .ref a4, .int (iI ri), .int (iI ld), .int (iI mn), .ref a8, .ref a9, .int (iI nn), .ref a11, .int (iI fn), .ref a13, .int (iI lm), .ref a15, .ref a16, .ref a17, .ref a18, .ref a19, .ref a20])), (a1, .inl (G.2.1 1, 120, .inl (iA t))), (a4, .inl (G.2.1 0, 32, .inl (iA rd1)))] H locs := hW
                refine lv_aload_n C.1 C.2.1 dX11_isItem_146 rfl (lv_at hl 2 rfl) ?_
                refine z_call (va_runV (As := []) (rest := []) C (c_X11_oneOrTwo l G x ln a1 (p1 + 1) a3 a4 ri ld mn a8 a9 nn a11 fn a13 lm a15 a16 a17 a18 a19 a20 t hT ht (by first | omega | assumption | (intros; first | rfl | omega | assumption | (and_intros <;> first | rfl | omega | assumption))) H.size) (cwV 0 C.2.2.2.2 gX11_isItem_X11_oneOrTwo rfl rfl rfl (by decide +kernel) ⟨Nat.le_of_ble_eq_true rfl, Nat.le_of_ble_eq_true rfl⟩) (z_preV hK hW hA [0, 1] rfl (by decide) (ci := 9) (q0 := 0) rfl rfl) rfl rfl hl.1 rfl (lv_room (Nat.le_of_ble_eq_true rfl)) dX11_isItem_147 ⟨Nat.zero_le _, Nat.zero_le _⟩) hW hA [0, 1] rfl (by decide) (fun _ => rfl) (fun r u H locs hp hW => ?_)
                obtain ⟨pl2_147, rfl⟩ : ∃ q9, q9 = u := ⟨_, rfl⟩
                have hp : ∃ z : Int, r = some (.int (iI z)) ∧ ((0 ≤ z ∧ z ≤ 99 ∧ NumR t ln (p1 + 1) pl2_147 z) ∨ (z = -1 ∧ ∀ q v, ¬ NumR t ln (p1 + 1) q v)) ∧ ((p1 + 1) ≤ pl2_147 ∧ pl2_147 ≤ ln) := hp
                obtain ⟨z_147, rfl, hz_147_0, hz_147_1⟩ := hp
                have hW : Wd G A s9.heap [(x, .inr (9, [.int (iI ln), .ref a1, .int (iI pl2_147), .ref a3, .ref a4, .int (iI ri), .int (iI ld), .int (iI mn), .ref a8, .ref a9, .int (iI nn), .ref a11, .int (iI fn), .ref a13, .int (iI lm), .ref a15, .ref a16, .ref a17, .ref a18, .ref a19, .ref a20])), (a1, .inl (G.2.1 1, 120, .inl (iA t))), (a4, .inl (G.2.1 0, 32, .inl (iA rd1)))] H locs := hW
                have hc130 : p1 < ln ∧ t p1 = 44 := by omega
                refine lv_istore (lv' := [(6, .int (iI z_147)), (2, .int (iI z_60)), (1, .int (iI z_22)), (0, .ref x), (3, .int (iI lo5)), (4, .int (iI hi5)), (5, .int (iI n))]) C.1 C.2.1 dX11_isItem_150 hl (by decide) rfl (fun ls hl => ?_)
                refine lv_iload C.1 C.2.1 dX11_isItem_152 (lv_at hl 6 rfl) ?_
                refine lv_bipush (v := iI 6) C.1 C.2.1 dX11_isItem_154 (by decide +kernel) ?_
                refine z_icmp_eq (tgt := 173) C dX11_isItem_156 (by decide) (by omega) (fun c_156 => ?_) (fun c_156 => ?_)
                ·
                  refine lv_iconst (v := iI 0) C.1 C.2.1 dX11_isItem_173 rfl ?_
                  rw [hQ]
                  have hP9 : ∃ z : Int, (some (Value.int (iI 0))) = some (.int (iI z)) ∧ ((z = 1 ∧ (ItemQ t ln pl pl2_147 rd rd1 ∧ ri = ri + 1)) ∨ (z = 0 ∧ ∀ e q s n B, ¬ ItemR t ln pl e q s n B)) ∧ (BD rd1) ∧ (pl ≤ pl2_147 ∧ pl2_147 ≤ ln) ∧ (ri = ri ∨ ri = ri + 1) := ⟨_, rfl, (Or.inr ⟨rfl, fun e9 r9 s9 n9 B9 hR9 => by obtain ⟨c9, f9, g1, g2, g3, g4, g5, g6, g7, g8, g9, ga, gb, gc⟩ := hR9; have hF := RdM_fun hR g1; obtain ⟨f1, f2, f3⟩ := hF; exact f3.elim (fun q => by omega) (fun q => by obtain ⟨q1, q2, q8, v8, h8⟩ := q; exact hz_147_0.elim (fun r => by have hF2 := RdM_fun (RdM_s (c' := n + 2) hR hc130.1 hc130.2 r.2.2 (by omega)) g1; have h1 := hF2.1 (n + 2) (by omega) (by omega); have h3 := f1 1 (by omega) (by omega); rw [up_s] at h1; have hB := gb n (by omega) (by omega); have hL := gc.2.2.1 n (by omega) (by omega); have hse : s9.toNat = z_60.toNat := (by omega); rw [hse] at hL; omega) (fun r => r.2 q8 v8 h8))⟩), hrd1, (by first | omega | assumption | (intros; first | rfl | omega | assumption | (and_intros <;> first | rfl | omega | assumption))), (by first | omega | assumption | (intros; first | rfl | omega | assumption | (and_intros <;> first | rfl | omega | assumption)))⟩
                  exact z_zret C hr rfl hlocks hW (pl2_147, ri, rd1) rfl hP9 dX11_isItem_174
                ·
                  refine lv_iload C.1 C.2.1 dX11_isItem_159 (lv_at hl 0 rfl) ?_
                  refine z_i2l C dX11_isItem_161 (by omega) ?_
                  refine lv_iload_n C.1 C.2.1 dX11_isItem_162 rfl (lv_at hl 4 rfl) ?_
                  refine z_i2l C dX11_isItem_163 (by omega) ?_
                  refine lv_iload C.1 C.2.1 dX11_isItem_164 (lv_at hl 5 rfl) ?_
                  refine z_i2l C dX11_isItem_166 (by omega) ?_
                  refine z_callR (va_runS (As := [.long (lI z_147), .long (lI lo5), .long (lI hi5)]) (rest := []) C (c_X11_in l G z_147 lo5 hi5 (by first | omega | assumption | (intros; first | rfl | omega | assumption | (and_intros <;> first | rfl | omega | assumption))) (by first | omega | assumption | (intros; first | rfl | omega | assumption | (and_intros <;> first | rfl | omega | assumption))) (by first | omega | assumption | (intros; first | rfl | omega | assumption | (and_intros <;> first | rfl | omega | assumption))) H.size) (va_cwS 3 C.2.2.2.2 gX11_isItem_X11_in rfl rfl rfl (by decide +kernel) ⟨Nat.le_of_ble_eq_true rfl, Nat.le_of_ble_eq_true rfl⟩) (z_preS hK hW hA [] rfl (by decide)) rfl rfl hl.1 rfl (lv_room (Nat.le_of_ble_eq_true rfl)) dX11_isItem_167 ⟨Nat.zero_le _, Nat.zero_le _⟩) (fun r hp => ?_)
                  have hp : ∃ z : Int, r = some (.int (iI z)) ∧ ((z = 1 ∧ (lo5 ≤ z_147 ∧ z_147 ≤ hi5)) ∨ (z = 0 ∧ ¬ (lo5 ≤ z_147 ∧ z_147 ≤ hi5))) := hp
                  obtain ⟨z_167, rfl, hz_167_0⟩ := hp
                  refine z_if_ne (tgt := 175) C dX11_isItem_170 (by decide) (by omega) (fun c_170 => ?_) (fun c_170 => ?_)
                  ·
                    have hN3 := hz_147_0.elim (fun q => q.2.2) (fun q => by omega)
                    have hR2 : RdM t ln pl (n + 1 + 1) (up f (n + 2) z_147) pl2_147 := (by have h := RdM_s (c' := n + 2) hR hc130.1 hc130.2 hN3 (by omega); rw [show n + 1 + 1 = n + 2 by omega]; exact h)
                    refine lv_aload_n C.1 C.2.1 dX11_isItem_175 rfl (lv_at hl 3 rfl) ?_
                    refine z_get C hK hW hin11 (v := .ref a4) 0 rfl rfl 4 (by decide) (C.2.2.2.2 (.fieldLink RX11 17 "TellingRowsModel" "read" "[I") (List.mem_of_getElem? (i := 4) rfl)) (fun _ h9 => h9) rfl dX11_isItem_176 ?_
                    refine lv_bipush (v := iI 8) C.1 C.2.1 dX11_isItem_179 (by decide +kernel) ?_
                    refine lv_iload_n C.1 C.2.1 dX11_isItem_181 rfl (lv_at hl 2 rfl) ?_
                    refine z_imul C dX11_isItem_182 ?_
                    refine lv_iconst (v := iI 2) C.1 C.2.1 dX11_isItem_183 rfl ?_
                    refine z_iadd C dX11_isItem_184 ?_
                    refine lv_iload C.1 C.2.1 dX11_isItem_185 (lv_at hl 6 rfl) ?_
                    refine z_iadd C dX11_isItem_187 ?_
                    refine lv_iload C.1 C.2.1 dX11_isItem_188 (lv_at hl 0 rfl) ?_
                    refine z_iast C hK hW 2 rfl (by omega) (by omega) dX11_isItem_190 (fun H locs hW => ?_)
                    have hbd_190 : BD (up rd1 (((8 * z_22) + 2) + n) z_147) := BD.up hrd1 (by omega)
                    have hW : Wd G A s9.heap [(x, .inr (9, [.int (iI ln), .ref a1, .int (iI pl2_147), .ref a3, .ref a4, .int (iI ri), .int (iI ld), .int (iI mn), .ref a8, .ref a9, .int (iI nn), .ref a11, .int (iI fn), .ref a13, .int (iI lm), .ref a15, .ref a16, .ref a17, .ref a18, .ref a19, .ref a20])), (a1, .inl (G.2.1 1, 120, .inl (iA t))), (a4, .inl (G.2.1 0, 32, .inl (iA (up rd1 (((8 * z_22) + 2) + n) z_147))))] H locs := hW
                    refine lv_iinc (v := iI (n + 1)) (lv' := [(5, .int (iI (n + 1))), (6, .int (iI z_147)), (2, .int (iI z_60)), (1, .int (iI z_22)), (0, .ref x), (3, .int (iI lo5)), (4, .int (iI hi5))]) C.1 C.2.1 dX11_isItem_191 hl (k := 6) rfl (iI_add _ _) (by decide) rfl (fun ls hl => ?_)
                    refine lv_goto (tgt := 127) C.1 C.2.1 dX11_isItem_194 (by decide) ?_
                    exact ih_127 lo5 hi5 (n + 1) pl2_147 (up rd1 (((8 * z_22) + 2) + n) z_147) (up f (n + 2) z_147) hlo5 hhi5 hlr (by first | omega | assumption | (intros; first | rfl | omega | assumption | (and_intros <;> first | rfl | omega | assumption))) (by first | omega | assumption | (intros; first | rfl | omega | assumption | (and_intros <;> first | rfl | omega | assumption))) hbd_190 hR2 ⟨by rw [up_n _ _ (by omega)]; exact hf0.1, by rw [up_n _ _ (by omega)]; exact hf0.2⟩ (fun j j0 j1 => if q : j = n then (by rw [q, up_s, up_s]) else (by rw [up_n _ _ (by omega), up_n _ _ (by omega)]; exact hrd j j0 (by omega))) (fun j j0 j1 => if q : j = n then (by rw [q, up_s]; omega) else (by rw [up_n _ _ (by omega)]; exact hlh j j0 (by omega))) (fun k k0 => by rw [up_n _ _ (by omega)]; exact hold k k0) (by omega) _ _ _ hW (lv_sub hl [2, 3, 4, 5, 6, 0] rfl)
                  ·
                    refine lv_iconst (v := iI 0) C.1 C.2.1 dX11_isItem_173 rfl ?_
                    rw [hQ]
                    have hP9 : ∃ z : Int, (some (Value.int (iI 0))) = some (.int (iI z)) ∧ ((z = 1 ∧ (ItemQ t ln pl pl2_147 rd rd1 ∧ ri = ri + 1)) ∨ (z = 0 ∧ ∀ e q s n B, ¬ ItemR t ln pl e q s n B)) ∧ (BD rd1) ∧ (pl ≤ pl2_147 ∧ pl2_147 ≤ ln) ∧ (ri = ri ∨ ri = ri + 1) := ⟨_, rfl, (Or.inr ⟨rfl, fun e9 r9 s9 n9 B9 hR9 => by obtain ⟨c9, f9, g1, g2, g3, g4, g5, g6, g7, g8, g9, ga, gb, gc⟩ := hR9; have hF := RdM_fun hR g1; obtain ⟨f1, f2, f3⟩ := hF; exact f3.elim (fun q => by omega) (fun q => by obtain ⟨q1, q2, q8, v8, h8⟩ := q; exact hz_147_0.elim (fun r => by have hF2 := RdM_fun (RdM_s (c' := n + 2) hR hc130.1 hc130.2 r.2.2 (by omega)) g1; have h1 := hF2.1 (n + 2) (by omega) (by omega); have h3 := f1 1 (by omega) (by omega); rw [up_s] at h1; have hB := gb n (by omega) (by omega); have hL := gc.2.2.1 n (by omega) (by omega); have hse : s9.toNat = z_60.toNat := (by omega); rw [hse] at hL; omega) (fun r => r.2 q8 v8 h8))⟩), hrd1, (by first | omega | assumption | (intros; first | rfl | omega | assumption | (and_intros <;> first | rfl | omega | assumption))), (by first | omega | assumption | (intros; first | rfl | omega | assumption | (and_intros <;> first | rfl | omega | assumption)))⟩
                    exact z_zret C hr rfl hlocks hW (pl2_147, ri, rd1) rfl hP9 dX11_isItem_174
          refine lv_iconst (v := iI 2) C.1 C.2.1 dX11_isItem_79 rfl ?_
          refine z_icmp_eq (tgt := 88) C dX11_isItem_80 (by decide) (by omega) (fun c_80 => ?_) (fun c_80 => ?_)
          ·
            refine lv_iconst (v := iI 0) C.1 C.2.1 dX11_isItem_88 rfl ?_
            refine lv_goto (tgt := 93) C.1 C.2.1 dX11_isItem_89 (by decide) ?_
            refine lv_istore_n (lv' := [(3, .int (iI 0)), (2, .int (iI z_60)), (1, .int (iI z_22)), (0, .ref x)]) C.1 C.2.1 dX11_isItem_93 rfl hl (by decide) rfl (fun ls hl => ?_)
            refine lv_iload_n C.1 C.2.1 dX11_isItem_94 rfl (lv_at hl 1 rfl) ?_
            refine lv_iconst (v := iI 2) C.1 C.2.1 dX11_isItem_95 rfl ?_
            refine z_icmp_eq (tgt := 105) C dX11_isItem_96 (by decide) (by omega) (fun c_96 => ?_) (fun c_96 => ?_)
            ·
              refine lv_bipush (v := iI 99) C.1 C.2.1 dX11_isItem_105 (by decide +kernel) ?_
              refine lv_goto (tgt := 122) C.1 C.2.1 dX11_isItem_107 (by decide) ?_
              refine lv_istore (lv' := [(4, .int (iI 99)), (3, .int (iI 0)), (2, .int (iI z_60)), (1, .int (iI z_22)), (0, .ref x)]) C.1 C.2.1 dX11_isItem_122 hl (by decide) rfl (fun ls hl => ?_)
              refine lv_iconst (v := iI 0) C.1 C.2.1 dX11_isItem_124 rfl ?_
              refine lv_istore (lv' := [(5, .int (iI 0)), (4, .int (iI 99)), (3, .int (iI 0)), (2, .int (iI z_60)), (1, .int (iI z_22)), (0, .ref x)]) C.1 C.2.1 dX11_isItem_125 hl (by decide) rfl (fun ls hl => ?_)
              exact cut_127 (((ln - pl2_60) + 1 : Int)).toNat 0 99 0 pl2_60 rd (up (fun _ => z_22) 1 z_60) (by first | omega | assumption | (intros; first | rfl | omega | assumption | (and_intros <;> first | rfl | omega | assumption))) (by first | omega | assumption | (intros; first | rfl | omega | assumption | (and_intros <;> first | rfl | omega | assumption))) (by first | omega | assumption | (intros; first | rfl | omega | assumption | (and_intros <;> first | rfl | omega | assumption))) (by first | omega | assumption | (intros; first | rfl | omega | assumption | (and_intros <;> first | rfl | omega | assumption))) (by first | omega | assumption | (intros; first | rfl | omega | assumption | (and_intros <;> first | rfl | omega | assumption))) hrd0 hR1 ⟨by rw [up_n _ _ (by omega)], by rw [up_s]⟩ (fun j j0 j1 => by omega) (fun j j0 j1 => by omega) (fun k _ => rfl) (by omega) _ _ _ hW (lv_sub hl [3, 4, 5, 2, 1, 0] rfl)
            ·
              refine lv_iload_n C.1 C.2.1 dX11_isItem_99 rfl (lv_at hl 1 rfl) ?_
              refine lv_bipush (v := iI 6) C.1 C.2.1 dX11_isItem_100 (by decide +kernel) ?_
              refine z_icmp_ne (tgt := 110) C dX11_isItem_102 (by decide) (by omega) (fun c_102 => ?_) (fun c_102 => ?_)
              ·
                refine lv_iload_n C.1 C.2.1 dX11_isItem_110 rfl (lv_at hl 1 rfl) ?_
                refine lv_iconst (v := iI 4) C.1 C.2.1 dX11_isItem_111 rfl ?_
                refine z_icmp_ne (tgt := 120) C dX11_isItem_112 (by decide) (by omega) (fun c_112 => ?_) (fun c_112 => ?_)
                ·
                  refine lv_bipush (v := iI 9) C.1 C.2.1 dX11_isItem_120 (by decide +kernel) ?_
                  refine lv_istore (lv' := [(4, .int (iI 9)), (3, .int (iI 0)), (2, .int (iI z_60)), (1, .int (iI z_22)), (0, .ref x)]) C.1 C.2.1 dX11_isItem_122 hl (by decide) rfl (fun ls hl => ?_)
                  refine lv_iconst (v := iI 0) C.1 C.2.1 dX11_isItem_124 rfl ?_
                  refine lv_istore (lv' := [(5, .int (iI 0)), (4, .int (iI 9)), (3, .int (iI 0)), (2, .int (iI z_60)), (1, .int (iI z_22)), (0, .ref x)]) C.1 C.2.1 dX11_isItem_125 hl (by decide) rfl (fun ls hl => ?_)
                  exact cut_127 (((ln - pl2_60) + 1 : Int)).toNat 0 9 0 pl2_60 rd (up (fun _ => z_22) 1 z_60) (by first | omega | assumption | (intros; first | rfl | omega | assumption | (and_intros <;> first | rfl | omega | assumption))) (by first | omega | assumption | (intros; first | rfl | omega | assumption | (and_intros <;> first | rfl | omega | assumption))) (by first | omega | assumption | (intros; first | rfl | omega | assumption | (and_intros <;> first | rfl | omega | assumption))) (by first | omega | assumption | (intros; first | rfl | omega | assumption | (and_intros <;> first | rfl | omega | assumption))) (by first | omega | assumption | (intros; first | rfl | omega | assumption | (and_intros <;> first | rfl | omega | assumption))) hrd0 hR1 ⟨by rw [up_n _ _ (by omega)], by rw [up_s]⟩ (fun j j0 j1 => by omega) (fun j j0 j1 => by omega) (fun k _ => rfl) (by omega) _ _ _ hW (lv_sub hl [3, 4, 5, 2, 1, 0] rfl)
                ·
                  refine lv_bipush (v := iI 20) C.1 C.2.1 dX11_isItem_115 (by decide +kernel) ?_
                  refine lv_goto (tgt := 122) C.1 C.2.1 dX11_isItem_117 (by decide) ?_
                  refine lv_istore (lv' := [(4, .int (iI 20)), (3, .int (iI 0)), (2, .int (iI z_60)), (1, .int (iI z_22)), (0, .ref x)]) C.1 C.2.1 dX11_isItem_122 hl (by decide) rfl (fun ls hl => ?_)
                  refine lv_iconst (v := iI 0) C.1 C.2.1 dX11_isItem_124 rfl ?_
                  refine lv_istore (lv' := [(5, .int (iI 0)), (4, .int (iI 20)), (3, .int (iI 0)), (2, .int (iI z_60)), (1, .int (iI z_22)), (0, .ref x)]) C.1 C.2.1 dX11_isItem_125 hl (by decide) rfl (fun ls hl => ?_)
                  exact cut_127 (((ln - pl2_60) + 1 : Int)).toNat 0 20 0 pl2_60 rd (up (fun _ => z_22) 1 z_60) (by first | omega | assumption | (intros; first | rfl | omega | assumption | (and_intros <;> first | rfl | omega | assumption))) (by first | omega | assumption | (intros; first | rfl | omega | assumption | (and_intros <;> first | rfl | omega | assumption))) (by first | omega | assumption | (intros; first | rfl | omega | assumption | (and_intros <;> first | rfl | omega | assumption))) (by first | omega | assumption | (intros; first | rfl | omega | assumption | (and_intros <;> first | rfl | omega | assumption))) (by first | omega | assumption | (intros; first | rfl | omega | assumption | (and_intros <;> first | rfl | omega | assumption))) hrd0 hR1 ⟨by rw [up_n _ _ (by omega)], by rw [up_s]⟩ (fun j j0 j1 => by omega) (fun j j0 j1 => by omega) (fun k _ => rfl) (by omega) _ _ _ hW (lv_sub hl [3, 4, 5, 2, 1, 0] rfl)
              ·
                refine lv_bipush (v := iI 99) C.1 C.2.1 dX11_isItem_105 (by decide +kernel) ?_
                refine lv_goto (tgt := 122) C.1 C.2.1 dX11_isItem_107 (by decide) ?_
                refine lv_istore (lv' := [(4, .int (iI 99)), (3, .int (iI 0)), (2, .int (iI z_60)), (1, .int (iI z_22)), (0, .ref x)]) C.1 C.2.1 dX11_isItem_122 hl (by decide) rfl (fun ls hl => ?_)
                refine lv_iconst (v := iI 0) C.1 C.2.1 dX11_isItem_124 rfl ?_
                refine lv_istore (lv' := [(5, .int (iI 0)), (4, .int (iI 99)), (3, .int (iI 0)), (2, .int (iI z_60)), (1, .int (iI z_22)), (0, .ref x)]) C.1 C.2.1 dX11_isItem_125 hl (by decide) rfl (fun ls hl => ?_)
                exact cut_127 (((ln - pl2_60) + 1 : Int)).toNat 0 99 0 pl2_60 rd (up (fun _ => z_22) 1 z_60) (by first | omega | assumption | (intros; first | rfl | omega | assumption | (and_intros <;> first | rfl | omega | assumption))) (by first | omega | assumption | (intros; first | rfl | omega | assumption | (and_intros <;> first | rfl | omega | assumption))) (by first | omega | assumption | (intros; first | rfl | omega | assumption | (and_intros <;> first | rfl | omega | assumption))) (by first | omega | assumption | (intros; first | rfl | omega | assumption | (and_intros <;> first | rfl | omega | assumption))) (by first | omega | assumption | (intros; first | rfl | omega | assumption | (and_intros <;> first | rfl | omega | assumption))) hrd0 hR1 ⟨by rw [up_n _ _ (by omega)], by rw [up_s]⟩ (fun j j0 j1 => by omega) (fun j j0 j1 => by omega) (fun k _ => rfl) (by omega) _ _ _ hW (lv_sub hl [3, 4, 5, 2, 1, 0] rfl)
          ·
            refine lv_iload_n C.1 C.2.1 dX11_isItem_83 rfl (lv_at hl 0 rfl) ?_
            refine lv_iconst (v := iI 4) C.1 C.2.1 dX11_isItem_84 rfl ?_
            refine z_icmp_le (tgt := 92) C dX11_isItem_85 (by decide) (by omega) (fun c_85 => ?_) (fun c_85 => ?_)
            ·
              refine lv_iconst (v := iI 1) C.1 C.2.1 dX11_isItem_92 rfl ?_
              refine lv_istore_n (lv' := [(3, .int (iI 1)), (2, .int (iI z_60)), (1, .int (iI z_22)), (0, .ref x)]) C.1 C.2.1 dX11_isItem_93 rfl hl (by decide) rfl (fun ls hl => ?_)
              refine lv_iload_n C.1 C.2.1 dX11_isItem_94 rfl (lv_at hl 1 rfl) ?_
              refine lv_iconst (v := iI 2) C.1 C.2.1 dX11_isItem_95 rfl ?_
              refine z_icmp_eq (tgt := 105) C dX11_isItem_96 (by decide) (by omega) (fun c_96 => ?_) (fun c_96 => ?_)
              ·
                refine lv_bipush (v := iI 99) C.1 C.2.1 dX11_isItem_105 (by decide +kernel) ?_
                refine lv_goto (tgt := 122) C.1 C.2.1 dX11_isItem_107 (by decide) ?_
                refine lv_istore (lv' := [(4, .int (iI 99)), (3, .int (iI 1)), (2, .int (iI z_60)), (1, .int (iI z_22)), (0, .ref x)]) C.1 C.2.1 dX11_isItem_122 hl (by decide) rfl (fun ls hl => ?_)
                refine lv_iconst (v := iI 0) C.1 C.2.1 dX11_isItem_124 rfl ?_
                refine lv_istore (lv' := [(5, .int (iI 0)), (4, .int (iI 99)), (3, .int (iI 1)), (2, .int (iI z_60)), (1, .int (iI z_22)), (0, .ref x)]) C.1 C.2.1 dX11_isItem_125 hl (by decide) rfl (fun ls hl => ?_)
                exact cut_127 (((ln - pl2_60) + 1 : Int)).toNat 1 99 0 pl2_60 rd (up (fun _ => z_22) 1 z_60) (by first | omega | assumption | (intros; first | rfl | omega | assumption | (and_intros <;> first | rfl | omega | assumption))) (by first | omega | assumption | (intros; first | rfl | omega | assumption | (and_intros <;> first | rfl | omega | assumption))) (by first | omega | assumption | (intros; first | rfl | omega | assumption | (and_intros <;> first | rfl | omega | assumption))) (by first | omega | assumption | (intros; first | rfl | omega | assumption | (and_intros <;> first | rfl | omega | assumption))) (by first | omega | assumption | (intros; first | rfl | omega | assumption | (and_intros <;> first | rfl | omega | assumption))) hrd0 hR1 ⟨by rw [up_n _ _ (by omega)], by rw [up_s]⟩ (fun j j0 j1 => by omega) (fun j j0 j1 => by omega) (fun k _ => rfl) (by omega) _ _ _ hW (lv_sub hl [3, 4, 5, 2, 1, 0] rfl)
              ·
                refine lv_iload_n C.1 C.2.1 dX11_isItem_99 rfl (lv_at hl 1 rfl) ?_
                refine lv_bipush (v := iI 6) C.1 C.2.1 dX11_isItem_100 (by decide +kernel) ?_
                refine z_icmp_ne (tgt := 110) C dX11_isItem_102 (by decide) (by omega) (fun c_102 => ?_) (fun c_102 => ?_)
                ·
                  refine lv_iload_n C.1 C.2.1 dX11_isItem_110 rfl (lv_at hl 1 rfl) ?_
                  refine lv_iconst (v := iI 4) C.1 C.2.1 dX11_isItem_111 rfl ?_
                  refine z_icmp_ne (tgt := 120) C dX11_isItem_112 (by decide) (by omega) (fun c_112 => ?_) (fun c_112 => ?_)
                  ·
                    refine lv_bipush (v := iI 9) C.1 C.2.1 dX11_isItem_120 (by decide +kernel) ?_
                    refine lv_istore (lv' := [(4, .int (iI 9)), (3, .int (iI 1)), (2, .int (iI z_60)), (1, .int (iI z_22)), (0, .ref x)]) C.1 C.2.1 dX11_isItem_122 hl (by decide) rfl (fun ls hl => ?_)
                    refine lv_iconst (v := iI 0) C.1 C.2.1 dX11_isItem_124 rfl ?_
                    refine lv_istore (lv' := [(5, .int (iI 0)), (4, .int (iI 9)), (3, .int (iI 1)), (2, .int (iI z_60)), (1, .int (iI z_22)), (0, .ref x)]) C.1 C.2.1 dX11_isItem_125 hl (by decide) rfl (fun ls hl => ?_)
                    exact cut_127 (((ln - pl2_60) + 1 : Int)).toNat 1 9 0 pl2_60 rd (up (fun _ => z_22) 1 z_60) (by first | omega | assumption | (intros; first | rfl | omega | assumption | (and_intros <;> first | rfl | omega | assumption))) (by first | omega | assumption | (intros; first | rfl | omega | assumption | (and_intros <;> first | rfl | omega | assumption))) (by first | omega | assumption | (intros; first | rfl | omega | assumption | (and_intros <;> first | rfl | omega | assumption))) (by first | omega | assumption | (intros; first | rfl | omega | assumption | (and_intros <;> first | rfl | omega | assumption))) (by first | omega | assumption | (intros; first | rfl | omega | assumption | (and_intros <;> first | rfl | omega | assumption))) hrd0 hR1 ⟨by rw [up_n _ _ (by omega)], by rw [up_s]⟩ (fun j j0 j1 => by omega) (fun j j0 j1 => by omega) (fun k _ => rfl) (by omega) _ _ _ hW (lv_sub hl [3, 4, 5, 2, 1, 0] rfl)
                  ·
                    refine lv_bipush (v := iI 20) C.1 C.2.1 dX11_isItem_115 (by decide +kernel) ?_
                    refine lv_goto (tgt := 122) C.1 C.2.1 dX11_isItem_117 (by decide) ?_
                    refine lv_istore (lv' := [(4, .int (iI 20)), (3, .int (iI 1)), (2, .int (iI z_60)), (1, .int (iI z_22)), (0, .ref x)]) C.1 C.2.1 dX11_isItem_122 hl (by decide) rfl (fun ls hl => ?_)
                    refine lv_iconst (v := iI 0) C.1 C.2.1 dX11_isItem_124 rfl ?_
                    refine lv_istore (lv' := [(5, .int (iI 0)), (4, .int (iI 20)), (3, .int (iI 1)), (2, .int (iI z_60)), (1, .int (iI z_22)), (0, .ref x)]) C.1 C.2.1 dX11_isItem_125 hl (by decide) rfl (fun ls hl => ?_)
                    exact cut_127 (((ln - pl2_60) + 1 : Int)).toNat 1 20 0 pl2_60 rd (up (fun _ => z_22) 1 z_60) (by first | omega | assumption | (intros; first | rfl | omega | assumption | (and_intros <;> first | rfl | omega | assumption))) (by first | omega | assumption | (intros; first | rfl | omega | assumption | (and_intros <;> first | rfl | omega | assumption))) (by first | omega | assumption | (intros; first | rfl | omega | assumption | (and_intros <;> first | rfl | omega | assumption))) (by first | omega | assumption | (intros; first | rfl | omega | assumption | (and_intros <;> first | rfl | omega | assumption))) (by first | omega | assumption | (intros; first | rfl | omega | assumption | (and_intros <;> first | rfl | omega | assumption))) hrd0 hR1 ⟨by rw [up_n _ _ (by omega)], by rw [up_s]⟩ (fun j j0 j1 => by omega) (fun j j0 j1 => by omega) (fun k _ => rfl) (by omega) _ _ _ hW (lv_sub hl [3, 4, 5, 2, 1, 0] rfl)
                ·
                  refine lv_bipush (v := iI 99) C.1 C.2.1 dX11_isItem_105 (by decide +kernel) ?_
                  refine lv_goto (tgt := 122) C.1 C.2.1 dX11_isItem_107 (by decide) ?_
                  refine lv_istore (lv' := [(4, .int (iI 99)), (3, .int (iI 1)), (2, .int (iI z_60)), (1, .int (iI z_22)), (0, .ref x)]) C.1 C.2.1 dX11_isItem_122 hl (by decide) rfl (fun ls hl => ?_)
                  refine lv_iconst (v := iI 0) C.1 C.2.1 dX11_isItem_124 rfl ?_
                  refine lv_istore (lv' := [(5, .int (iI 0)), (4, .int (iI 99)), (3, .int (iI 1)), (2, .int (iI z_60)), (1, .int (iI z_22)), (0, .ref x)]) C.1 C.2.1 dX11_isItem_125 hl (by decide) rfl (fun ls hl => ?_)
                  exact cut_127 (((ln - pl2_60) + 1 : Int)).toNat 1 99 0 pl2_60 rd (up (fun _ => z_22) 1 z_60) (by first | omega | assumption | (intros; first | rfl | omega | assumption | (and_intros <;> first | rfl | omega | assumption))) (by first | omega | assumption | (intros; first | rfl | omega | assumption | (and_intros <;> first | rfl | omega | assumption))) (by first | omega | assumption | (intros; first | rfl | omega | assumption | (and_intros <;> first | rfl | omega | assumption))) (by first | omega | assumption | (intros; first | rfl | omega | assumption | (and_intros <;> first | rfl | omega | assumption))) (by first | omega | assumption | (intros; first | rfl | omega | assumption | (and_intros <;> first | rfl | omega | assumption))) hrd0 hR1 ⟨by rw [up_n _ _ (by omega)], by rw [up_s]⟩ (fun j j0 j1 => by omega) (fun j j0 j1 => by omega) (fun k _ => rfl) (by omega) _ _ _ hW (lv_sub hl [3, 4, 5, 2, 1, 0] rfl)
            ·
              refine lv_iconst (v := iI 0) C.1 C.2.1 dX11_isItem_88 rfl ?_
              refine lv_goto (tgt := 93) C.1 C.2.1 dX11_isItem_89 (by decide) ?_
              refine lv_istore_n (lv' := [(3, .int (iI 0)), (2, .int (iI z_60)), (1, .int (iI z_22)), (0, .ref x)]) C.1 C.2.1 dX11_isItem_93 rfl hl (by decide) rfl (fun ls hl => ?_)
              refine lv_iload_n C.1 C.2.1 dX11_isItem_94 rfl (lv_at hl 1 rfl) ?_
              refine lv_iconst (v := iI 2) C.1 C.2.1 dX11_isItem_95 rfl ?_
              refine z_icmp_eq (tgt := 105) C dX11_isItem_96 (by decide) (by omega) (fun c_96 => ?_) (fun c_96 => ?_)
              ·
                refine lv_bipush (v := iI 99) C.1 C.2.1 dX11_isItem_105 (by decide +kernel) ?_
                refine lv_goto (tgt := 122) C.1 C.2.1 dX11_isItem_107 (by decide) ?_
                refine lv_istore (lv' := [(4, .int (iI 99)), (3, .int (iI 0)), (2, .int (iI z_60)), (1, .int (iI z_22)), (0, .ref x)]) C.1 C.2.1 dX11_isItem_122 hl (by decide) rfl (fun ls hl => ?_)
                refine lv_iconst (v := iI 0) C.1 C.2.1 dX11_isItem_124 rfl ?_
                refine lv_istore (lv' := [(5, .int (iI 0)), (4, .int (iI 99)), (3, .int (iI 0)), (2, .int (iI z_60)), (1, .int (iI z_22)), (0, .ref x)]) C.1 C.2.1 dX11_isItem_125 hl (by decide) rfl (fun ls hl => ?_)
                exact cut_127 (((ln - pl2_60) + 1 : Int)).toNat 0 99 0 pl2_60 rd (up (fun _ => z_22) 1 z_60) (by first | omega | assumption | (intros; first | rfl | omega | assumption | (and_intros <;> first | rfl | omega | assumption))) (by first | omega | assumption | (intros; first | rfl | omega | assumption | (and_intros <;> first | rfl | omega | assumption))) (by first | omega | assumption | (intros; first | rfl | omega | assumption | (and_intros <;> first | rfl | omega | assumption))) (by first | omega | assumption | (intros; first | rfl | omega | assumption | (and_intros <;> first | rfl | omega | assumption))) (by first | omega | assumption | (intros; first | rfl | omega | assumption | (and_intros <;> first | rfl | omega | assumption))) hrd0 hR1 ⟨by rw [up_n _ _ (by omega)], by rw [up_s]⟩ (fun j j0 j1 => by omega) (fun j j0 j1 => by omega) (fun k _ => rfl) (by omega) _ _ _ hW (lv_sub hl [3, 4, 5, 2, 1, 0] rfl)
              ·
                refine lv_iload_n C.1 C.2.1 dX11_isItem_99 rfl (lv_at hl 1 rfl) ?_
                refine lv_bipush (v := iI 6) C.1 C.2.1 dX11_isItem_100 (by decide +kernel) ?_
                refine z_icmp_ne (tgt := 110) C dX11_isItem_102 (by decide) (by omega) (fun c_102 => ?_) (fun c_102 => ?_)
                ·
                  refine lv_iload_n C.1 C.2.1 dX11_isItem_110 rfl (lv_at hl 1 rfl) ?_
                  refine lv_iconst (v := iI 4) C.1 C.2.1 dX11_isItem_111 rfl ?_
                  refine z_icmp_ne (tgt := 120) C dX11_isItem_112 (by decide) (by omega) (fun c_112 => ?_) (fun c_112 => ?_)
                  ·
                    refine lv_bipush (v := iI 9) C.1 C.2.1 dX11_isItem_120 (by decide +kernel) ?_
                    refine lv_istore (lv' := [(4, .int (iI 9)), (3, .int (iI 0)), (2, .int (iI z_60)), (1, .int (iI z_22)), (0, .ref x)]) C.1 C.2.1 dX11_isItem_122 hl (by decide) rfl (fun ls hl => ?_)
                    refine lv_iconst (v := iI 0) C.1 C.2.1 dX11_isItem_124 rfl ?_
                    refine lv_istore (lv' := [(5, .int (iI 0)), (4, .int (iI 9)), (3, .int (iI 0)), (2, .int (iI z_60)), (1, .int (iI z_22)), (0, .ref x)]) C.1 C.2.1 dX11_isItem_125 hl (by decide) rfl (fun ls hl => ?_)
                    exact cut_127 (((ln - pl2_60) + 1 : Int)).toNat 0 9 0 pl2_60 rd (up (fun _ => z_22) 1 z_60) (by first | omega | assumption | (intros; first | rfl | omega | assumption | (and_intros <;> first | rfl | omega | assumption))) (by first | omega | assumption | (intros; first | rfl | omega | assumption | (and_intros <;> first | rfl | omega | assumption))) (by first | omega | assumption | (intros; first | rfl | omega | assumption | (and_intros <;> first | rfl | omega | assumption))) (by first | omega | assumption | (intros; first | rfl | omega | assumption | (and_intros <;> first | rfl | omega | assumption))) (by first | omega | assumption | (intros; first | rfl | omega | assumption | (and_intros <;> first | rfl | omega | assumption))) hrd0 hR1 ⟨by rw [up_n _ _ (by omega)], by rw [up_s]⟩ (fun j j0 j1 => by omega) (fun j j0 j1 => by omega) (fun k _ => rfl) (by omega) _ _ _ hW (lv_sub hl [3, 4, 5, 2, 1, 0] rfl)
                  ·
                    refine lv_bipush (v := iI 20) C.1 C.2.1 dX11_isItem_115 (by decide +kernel) ?_
                    refine lv_goto (tgt := 122) C.1 C.2.1 dX11_isItem_117 (by decide) ?_
                    refine lv_istore (lv' := [(4, .int (iI 20)), (3, .int (iI 0)), (2, .int (iI z_60)), (1, .int (iI z_22)), (0, .ref x)]) C.1 C.2.1 dX11_isItem_122 hl (by decide) rfl (fun ls hl => ?_)
                    refine lv_iconst (v := iI 0) C.1 C.2.1 dX11_isItem_124 rfl ?_
                    refine lv_istore (lv' := [(5, .int (iI 0)), (4, .int (iI 20)), (3, .int (iI 0)), (2, .int (iI z_60)), (1, .int (iI z_22)), (0, .ref x)]) C.1 C.2.1 dX11_isItem_125 hl (by decide) rfl (fun ls hl => ?_)
                    exact cut_127 (((ln - pl2_60) + 1 : Int)).toNat 0 20 0 pl2_60 rd (up (fun _ => z_22) 1 z_60) (by first | omega | assumption | (intros; first | rfl | omega | assumption | (and_intros <;> first | rfl | omega | assumption))) (by first | omega | assumption | (intros; first | rfl | omega | assumption | (and_intros <;> first | rfl | omega | assumption))) (by first | omega | assumption | (intros; first | rfl | omega | assumption | (and_intros <;> first | rfl | omega | assumption))) (by first | omega | assumption | (intros; first | rfl | omega | assumption | (and_intros <;> first | rfl | omega | assumption))) (by first | omega | assumption | (intros; first | rfl | omega | assumption | (and_intros <;> first | rfl | omega | assumption))) hrd0 hR1 ⟨by rw [up_n _ _ (by omega)], by rw [up_s]⟩ (fun j j0 j1 => by omega) (fun j j0 j1 => by omega) (fun k _ => rfl) (by omega) _ _ _ hW (lv_sub hl [3, 4, 5, 2, 1, 0] rfl)
                ·
                  refine lv_bipush (v := iI 99) C.1 C.2.1 dX11_isItem_105 (by decide +kernel) ?_
                  refine lv_goto (tgt := 122) C.1 C.2.1 dX11_isItem_107 (by decide) ?_
                  refine lv_istore (lv' := [(4, .int (iI 99)), (3, .int (iI 0)), (2, .int (iI z_60)), (1, .int (iI z_22)), (0, .ref x)]) C.1 C.2.1 dX11_isItem_122 hl (by decide) rfl (fun ls hl => ?_)
                  refine lv_iconst (v := iI 0) C.1 C.2.1 dX11_isItem_124 rfl ?_
                  refine lv_istore (lv' := [(5, .int (iI 0)), (4, .int (iI 99)), (3, .int (iI 0)), (2, .int (iI z_60)), (1, .int (iI z_22)), (0, .ref x)]) C.1 C.2.1 dX11_isItem_125 hl (by decide) rfl (fun ls hl => ?_)
                  exact cut_127 (((ln - pl2_60) + 1 : Int)).toNat 0 99 0 pl2_60 rd (up (fun _ => z_22) 1 z_60) (by first | omega | assumption | (intros; first | rfl | omega | assumption | (and_intros <;> first | rfl | omega | assumption))) (by first | omega | assumption | (intros; first | rfl | omega | assumption | (and_intros <;> first | rfl | omega | assumption))) (by first | omega | assumption | (intros; first | rfl | omega | assumption | (and_intros <;> first | rfl | omega | assumption))) (by first | omega | assumption | (intros; first | rfl | omega | assumption | (and_intros <;> first | rfl | omega | assumption))) (by first | omega | assumption | (intros; first | rfl | omega | assumption | (and_intros <;> first | rfl | omega | assumption))) hrd0 hR1 ⟨by rw [up_n _ _ (by omega)], by rw [up_s]⟩ (fun j j0 j1 => by omega) (fun j j0 j1 => by omega) (fun k _ => rfl) (by omega) _ _ _ hW (lv_sub hl [3, 4, 5, 2, 1, 0] rfl)
        ·
          refine lv_iconst (v := iI 0) C.1 C.2.1 dX11_isItem_76 rfl ?_
          rw [hQ]
          have hP9 : ∃ z : Int, (some (Value.int (iI 0))) = some (.int (iI z)) ∧ ((z = 1 ∧ (ItemQ t ln pl pl2_60 rd rd ∧ ri = ri + 1)) ∨ (z = 0 ∧ ∀ e q s n B, ¬ ItemR t ln pl e q s n B)) ∧ (BD rd) ∧ (pl ≤ pl2_60 ∧ pl2_60 ≤ ln) ∧ (ri = ri ∨ ri = ri + 1) := ⟨_, rfl, (Or.inr ⟨rfl, fun e9 r9 s9 n9 B9 hR9 => by obtain ⟨c9, f9, g1, g2, g3, g4, g5, g6, g7, g8, g9, ga, gb, gc⟩ := hR9; have hF := RdM_fun hR0 g1; obtain ⟨f1, f2, f3⟩ := hF; exact f3.elim (fun q => by omega) (fun q => by obtain ⟨q1, q2, q8, v8, h8⟩ := q; exact hz_60_0.elim (fun r => by have hF2 := RdM_fun (RdM_s (c' := 1) hR0 hc41.1 hc41.2 r.2.2 rfl) g1; have h1 := hF2.1 1 (by omega) (by omega); rw [up_s] at h1; omega) (fun r => r.2 q8 v8 h8))⟩), hrd0, (by first | omega | assumption | (intros; first | rfl | omega | assumption | (and_intros <;> first | rfl | omega | assumption))), (by first | omega | assumption | (intros; first | rfl | omega | assumption | (and_intros <;> first | rfl | omega | assumption)))⟩
          exact z_zret C hr rfl hlocks hW (pl2_60, ri, rd) rfl hP9 dX11_isItem_77
      ·
        refine lv_iconst (v := iI 0) C.1 C.2.1 dX11_isItem_47 rfl ?_
        rw [hQ]
        have hP9 : ∃ z : Int, (some (Value.int (iI 0))) = some (.int (iI z)) ∧ ((z = 1 ∧ (ItemQ t ln pl pl2_22 rd rd ∧ ri = ri + 1)) ∨ (z = 0 ∧ ∀ e q s n B, ¬ ItemR t ln pl e q s n B)) ∧ (BD rd) ∧ (pl ≤ pl2_22 ∧ pl2_22 ≤ ln) ∧ (ri = ri ∨ ri = ri + 1) := ⟨_, rfl, (Or.inr ⟨rfl, fun e9 r9 s9 n9 B9 hR9 => by obtain ⟨c9, f9, g1, g2, g3, g4, g5, g6, g7, g8, g9, ga, gb, gc⟩ := hR9; have hz := ItemL_num (k := 0) (e0 := pl + 1) (f := f9) g1 rfl; obtain ⟨-, q8, v8, h8, -⟩ := hz; exact hz_22_0.elim (fun q => by have hF := RdM_fun (RdM_0 q.2.2) g1; have h0 := hF.1 0 (by omega) (by omega); omega) (fun q => q.2 q8 v8 h8)⟩), hrd0, (by first | omega | assumption | (intros; first | rfl | omega | assumption | (and_intros <;> first | rfl | omega | assumption))), (by first | omega | assumption | (intros; first | rfl | omega | assumption | (and_intros <;> first | rfl | omega | assumption)))⟩
        exact z_zret C hr rfl hlocks hW (pl2_22, ri, rd) rfl hP9 dX11_isItem_48
  ·
    refine lv_iconst (v := iI 0) C.1 C.2.1 dX11_isItem_9 rfl ?_
    rw [hQ]
    have hP9 : ∃ z : Int, (some (Value.int (iI 0))) = some (.int (iI z)) ∧ ((z = 1 ∧ (ItemQ t ln pl pl rd rd ∧ ri = ri + 1)) ∨ (z = 0 ∧ ∀ e q s n B, ¬ ItemR t ln pl e q s n B)) ∧ (BD rd) ∧ (pl ≤ pl ∧ pl ≤ ln) ∧ (ri = ri ∨ ri = ri + 1) := ⟨_, rfl, (Or.inr ⟨rfl, fun e9 r9 s9 n9 B9 hR9 => by obtain ⟨c9, f9, g1, g2, g3, g4, g5, g6, g7, g8, g9, ga, gb, gc⟩ := hR9; have := g1.2.1; omega⟩), hrd0, (by first | omega | assumption | (intros; first | rfl | omega | assumption | (and_intros <;> first | rfl | omega | assumption))), (by first | omega | assumption | (intros; first | rfl | omega | assumption | (and_intros <;> first | rfl | omega | assumption)))⟩
    exact z_zret C hr rfl hlocks hW (pl, ri, rd) rfl hP9 dX11_isItem_10
set_option maxHeartbeats 4000000 in
set_option maxRecDepth 100000 in
/-- fault -/
theorem c_X11_fault (l : Launch) (G : GG) (x : Nat) (ln : Int) (a1 : Nat) (pl : Int) (a3 : Nat) (a4 : Nat) (ri : Int) (ld : Int) (mn : Int) (a8 : Nat) (a9 : Nat) (nn : Int) (a11 : Nat) (fn : Int) (a13 : Nat) (lm : Int) (a15 : Nat) (a16 : Nat) (a17 : Nat) (a18 : Nat) (a19 : Nat) (a20 : Nat) (t : Int → Int) (lw : Int → Int) (rd : Int → Int) (hT : 0 ≤ ln ∧ ln ≤ 120) (ht : BD t) (hlw : BD lw) (hrd0 : BD rd) (hLw : LawR lw) : MQc l yX11_fault wsX11_fault 3 G [.ref x] [(x, .inr (9, [.int (iI ln), .ref a1, .int (iI pl), .ref a3, .ref a4, .int (iI ri), .int (iI ld), .int (iI mn), .ref a8, .ref a9, .int (iI nn), .ref a11, .int (iI fn), .ref a13, .int (iI lm), .ref a15, .ref a16, .ref a17, .ref a18, .ref a19, .ref a20])), (a1, .inl (G.2.1 1, 120, .inl (iA t))), (a3, .inl (G.2.1 0, 32, .inl (iA lw))), (a4, .inl (G.2.1 0, 32, .inl (iA rd)))] (fun r (u : Int × Int × (Int → Int)) => ∃ z : Int, r = some (.int (iI z)) ∧ (FaultR t ln z) ∧ (z = -4 → LayM t ln lw u.2.1.toNat ln u.2.2 ∧ LawR u.2.2) ∧ (0 ≤ u.2.1 ∧ u.2.1 ≤ 40) ∧ (BD u.2.2) ∧ (0 ≤ u.1 ∧ u.1 ≤ ln) ∧ (-4 ≤ z ∧ z ≤ 120)) (fun u => [(x, .inr (9, [.int (iI ln), .ref a1, .int (iI u.1), .ref a3, .ref a4, .int (iI u.2.1), .int (iI ld), .int (iI mn), .ref a8, .ref a9, .int (iI nn), .ref a11, .int (iI fn), .ref a13, .int (iI lm), .ref a15, .ref a16, .ref a17, .ref a18, .ref a19, .ref a20])), (a1, .inl (G.2.1 1, 120, .inl (iA t))), (a3, .inl (G.2.1 0, 32, .inl (iA lw))), (a4, .inl (G.2.1 0, 32, .inl (iA u.2.2)))]) := by
  refine MQc.start (own := RX11) (by decide) rfl rfl (Nat.le_of_ble_eq_true rfl) ?_
  intro p9 e9 s9 m9 args below meth c9 A Q C hK hW hA hr hlocks hQ ls hl
  have hl : lv_has ls 2 [(0, .ref x)] := hl
  have hin11 : ∀ w ∈ wsX110, w ∈ wsX11_fault := by decide +kernel
  refine lv_aload_n C.1 C.2.1 dX11_fault_0 rfl (lv_at hl 0 rfl) ?_
  refine lv_iconst (v := iI 0) C.1 C.2.1 dX11_fault_1 rfl ?_
  refine z_put C hK hW hin11 tyX11 tyX11_ok nmX11 0 rfl rfl 2 (by decide) (C.2.2.2.2 (.fieldLink RX11 65 "TellingRowsModel" "at" "I") (List.mem_of_getElem? (i := 1) rfl)) (fun _ h9 => h9) rfl rfl rfl (Nat.le_of_ble_eq_true rfl) dX11_fault_2 (fun H locs hW => ?_)
  have hW : Wd G A s9.heap [(x, .inr (9, [.int (iI ln), .ref a1, .int (iI 0), .ref a3, .ref a4, .int (iI ri), .int (iI ld), .int (iI mn), .ref a8, .ref a9, .int (iI nn), .ref a11, .int (iI fn), .ref a13, .int (iI lm), .ref a15, .ref a16, .ref a17, .ref a18, .ref a19, .ref a20])), (a1, .inl (G.2.1 1, 120, .inl (iA t))), (a3, .inl (G.2.1 0, 32, .inl (iA lw))), (a4, .inl (G.2.1 0, 32, .inl (iA rd)))] H locs := hW
  refine lv_aload_n C.1 C.2.1 dX11_fault_5 rfl (lv_at hl 0 rfl) ?_
  refine lv_iconst (v := iI 0) C.1 C.2.1 dX11_fault_6 rfl ?_
  refine z_put C hK hW hin11 tyX11 tyX11_ok nmX11 0 rfl rfl 5 (by decide) (C.2.2.2.2 (.fieldLink RX11 86 "TellingRowsModel" "readItems" "I") (List.mem_of_getElem? (i := 2) rfl)) (fun _ h9 => h9) rfl rfl rfl (Nat.le_of_ble_eq_true rfl) dX11_fault_7 (fun H locs hW => ?_)
  have hW : Wd G A s9.heap [(x, .inr (9, [.int (iI ln), .ref a1, .int (iI 0), .ref a3, .ref a4, .int (iI 0), .int (iI ld), .int (iI mn), .ref a8, .ref a9, .int (iI nn), .ref a11, .int (iI fn), .ref a13, .int (iI lm), .ref a15, .ref a16, .ref a17, .ref a18, .ref a19, .ref a20])), (a1, .inl (G.2.1 1, 120, .inl (iA t))), (a3, .inl (G.2.1 0, 32, .inl (iA lw))), (a4, .inl (G.2.1 0, 32, .inl (iA rd)))] H locs := hW
  refine lv_iconst (v := iI 0) C.1 C.2.1 dX11_fault_10 rfl ?_
  refine lv_istore_n (lv' := [(1, .int (iI 0)), (0, .ref x)]) C.1 C.2.1 dX11_fault_11 rfl hl (by decide) rfl (fun ls hl => ?_)
  have cut_12 : ∀ (n9 : Nat) (k : Int) (rd1 : Int → Int), (0 ≤ k ∧ k ≤ 32) → (BD rd1) → (∀ j, 0 ≤ j → j < k → rd1 j = lw j) → (32 - k < (n9 : Int)) → ∀ (H : Heap) (locs : List Loc) (ls : Array Slot), Wd G A s9.heap [(x, .inr (9, [.int (iI ln), .ref a1, .int (iI 0), .ref a3, .ref a4, .int (iI 0), .int (iI ld), .int (iI mn), .ref a8, .ref a9, .int (iI nn), .ref a11, .int (iI fn), .ref a13, .int (iI lm), .ref a15, .ref a16, .ref a17, .ref a18, .ref a19, .ref a20])), (a1, .inl (G.2.1 1, 120, .inl (iA t))), (a3, .inl (G.2.1 0, 32, .inl (iA lw))), (a4, .inl (G.2.1 0, 32, .inl (iA rd1)))] H locs → lv_has ls 2 [(1, .int (iI k)), (0, .ref x)] → W p9 l e9 (rmL 3) s9 m9 args below meth c9 H locs 0 0 Q (F0 m9 12 ls []) := by
    intro n9
    induction n9 with
    | zero => intro k rd1 hk hrd1 he hmu; intros; exfalso; omega
    | succ n9 ih_12 =>
      intro k rd1 hk hrd1 he hmu H locs ls hW hl
      refine lv_iload_n C.1 C.2.1 dX11_fault_12 rfl (lv_at hl 0 rfl) ?_
      refine lv_bipush (v := iI 32) C.1 C.2.1 dX11_fault_13 (by decide +kernel) ?_
      refine z_icmp_ge (tgt := 36) C dX11_fault_15 (by decide) (by omega) (fun c_15 => ?_) (fun c_15 => ?_)
      ·
        have cut_36 : ∀ (n9 : Nat) (it : Int) (p : Int) (rd3 : Int → Int), (0 ≤ it) → (0 ≤ p ∧ p ≤ ln) → (BD rd3) → (LayM t ln lw it.toNat p rd3) → (LawR rd3) → (ln - p < (n9 : Int)) → ∀ (H : Heap) (locs : List Loc) (ls : Array Slot), Wd G A s9.heap [(x, .inr (9, [.int (iI ln), .ref a1, .int (iI p), .ref a3, .ref a4, .int (iI it), .int (iI ld), .int (iI mn), .ref a8, .ref a9, .int (iI nn), .ref a11, .int (iI fn), .ref a13, .int (iI lm), .ref a15, .ref a16, .ref a17, .ref a18, .ref a19, .ref a20])), (a1, .inl (G.2.1 1, 120, .inl (iA t))), (a3, .inl (G.2.1 0, 32, .inl (iA lw))), (a4, .inl (G.2.1 0, 32, .inl (iA rd3)))] H locs → lv_has ls 2 [(0, .ref x)] → W p9 l e9 (rmL 3) s9 m9 args below meth c9 H locs 0 0 Q (F0 m9 36 ls []) := by
          intro n9
          induction n9 with
          | zero => intro it p rd3 hit hp hrd3 hM hL3 hmu; intros; exfalso; omega
          | succ n9 ih_36 =>
            intro it p rd3 hit hp hrd3 hM hL3 hmu H locs ls hW hl
            have hCh := LayM_ch hM
            have hCb := Chain_b hT.1 _ _ hCh
            refine lv_aload_n C.1 C.2.1 dX11_fault_36 rfl (lv_at hl 0 rfl) ?_
            refine z_get C hK hW hin11 (v := .int (iI p)) 0 rfl rfl 2 (by decide) (C.2.2.2.2 (.fieldLink RX11 65 "TellingRowsModel" "at" "I") (List.mem_of_getElem? (i := 1) rfl)) (fun _ h9 => h9) rfl dX11_fault_37 ?_
            refine lv_aload_n C.1 C.2.1 dX11_fault_40 rfl (lv_at hl 0 rfl) ?_
            refine z_get C hK hW hin11 (v := .int (iI ln)) 0 rfl rfl 0 (by decide) (C.2.2.2.2 (.fieldLink RX11 62 "TellingRowsModel" "length" "I") (List.mem_of_getElem? (i := 5) rfl)) (fun _ h9 => h9) rfl dX11_fault_41 ?_
            refine z_icmp_ge (tgt := 64) C dX11_fault_44 (by decide) (by omega) (fun c_44 => ?_) (fun c_44 => ?_)
            ·
              refine lv_bipush (v := iI (-4)) C.1 C.2.1 dX11_fault_64 (by decide +kernel) ?_
              rw [hQ]
              have hP9 : ∃ z : Int, (some (Value.int (iI (-4)))) = some (.int (iI z)) ∧ (FaultR t ln z) ∧ (z = -4 → LayM t ln lw it.toNat ln rd3 ∧ LawR rd3) ∧ (0 ≤ it ∧ it ≤ 40) ∧ (BD rd3) ∧ (0 ≤ p ∧ p ≤ ln) ∧ (-4 ≤ z ∧ z ≤ 120) := ⟨_, rfl, ⟨it.toNat, p, hCh, Or.inr ⟨rfl, by omega⟩⟩, (fun _ => ⟨by rw [show ln = p by omega] at hM ⊢; exact hM, hL3⟩), (by first | omega | assumption | (intros; first | rfl | omega | assumption | (and_intros <;> first | rfl | omega | assumption))), hrd3, hp, (by first | omega | assumption | (intros; first | rfl | omega | assumption | (and_intros <;> first | rfl | omega | assumption)))⟩
              exact z_iret C hr hlocks hW (p, it, rd3) rfl hP9 dX11_fault_66
            ·
              refine lv_aload_n C.1 C.2.1 dX11_fault_47 rfl (lv_at hl 0 rfl) ?_
              refine z_get C hK hW hin11 (v := .int (iI p)) 0 rfl rfl 2 (by decide) (C.2.2.2.2 (.fieldLink RX11 65 "TellingRowsModel" "at" "I") (List.mem_of_getElem? (i := 1) rfl)) (fun _ h9 => h9) rfl dX11_fault_48 ?_
              refine lv_istore_n (lv' := [(1, .int (iI p)), (0, .ref x)]) C.1 C.2.1 dX11_fault_51 rfl hl (by decide) rfl (fun ls hl => ?_)
              refine lv_aload_n C.1 C.2.1 dX11_fault_52 rfl (lv_at hl 1 rfl) ?_
              refine z_call (va_runV (As := []) (rest := []) C (c_X11_isItem l G x ln a1 p a3 a4 it ld mn a8 a9 nn a11 fn a13 lm a15 a16 a17 a18 a19 a20 t rd3 hT ht hrd3 (by first | omega | assumption | (intros; first | rfl | omega | assumption | (and_intros <;> first | rfl | omega | assumption))) H.size) (cwV 0 C.2.2.2.2 gX11_fault_X11_isItem rfl rfl rfl (by decide +kernel) ⟨Nat.le_of_ble_eq_true rfl, Nat.le_of_ble_eq_true rfl⟩) (z_preV hK hW hA [0, 1, 3] rfl (by decide) (ci := 9) (q0 := 0) rfl rfl) rfl rfl hl.1 rfl (lv_room (Nat.le_of_ble_eq_true rfl)) dX11_fault_53 ⟨Nat.zero_le _, Nat.zero_le _⟩) hW hA [0, 1, 3] rfl (by decide) (fun _ => rfl) (fun r u H locs hp hW => ?_)
              obtain ⟨pl2_53, ri2_53, rd2_53⟩ := u
              have hp : ∃ z : Int, r = some (.int (iI z)) ∧ ((z = 1 ∧ (ItemQ t ln p pl2_53 rd3 rd2_53 ∧ ri2_53 = it + 1)) ∨ (z = 0 ∧ ∀ e q s n B, ¬ ItemR t ln p e q s n B)) ∧ (BD rd2_53) ∧ (p ≤ pl2_53 ∧ pl2_53 ≤ ln) ∧ (ri2_53 = it ∨ ri2_53 = it + 1) := hp
              obtain ⟨z_53, rfl, hz_53_0, hz_53_1, hz_53_2, hz_53_3⟩ := hp
              have hW : Wd G A s9.heap [(x, .inr (9, [.int (iI ln), .ref a1, .int (iI pl2_53), .ref a3, .ref a4, .int (iI ri2_53), .int (iI ld), .int (iI mn), .ref a8, .ref a9, .int (iI nn), .ref a11, .int (iI fn), .ref a13, .int (iI lm), .ref a15, .ref a16, .ref a17, .ref a18, .ref a19, .ref a20])), (a1, .inl (G.2.1 1, 120, .inl (iA t))), (a3, .inl (G.2.1 0, 32, .inl (iA lw))), (a4, .inl (G.2.1 0, 32, .inl (iA rd2_53)))] H locs := hW
              refine z_if_ne (tgt := 61) C dX11_fault_56 (by decide) (by omega) (fun c_56 => ?_) (fun c_56 => ?_)
              ·
                have hIq := hz_53_0.elim (fun q => q.2) (fun q => absurd q.1 (by omega))
                have hMs := LayM_s hit hM hL3 (by omega) hIq.1
                have hIb : p < pl2_53 := by obtain ⟨_, _, _, hh, _⟩ := hIq.1; have := ItemR_b hh; omega
                have hri : ri2_53 = it + 1 := hIq.2
                refine lv_goto (tgt := 36) C.1 C.2.1 dX11_fault_61 (by decide) ?_
                exact ih_36 ri2_53 pl2_53 rd2_53 (by first | omega | assumption | (intros; first | rfl | omega | assumption | (and_intros <;> first | rfl | omega | assumption))) (by first | omega | assumption | (intros; first | rfl | omega | assumption | (and_intros <;> first | rfl | omega | assumption))) hz_53_1 (by rw [hri]; exact hMs.1) hMs.2 (by omega) _ _ _ hW (lv_sub hl [1] rfl)
              ·
                have hI := hz_53_0.elim (fun q => absurd q.1 (by omega)) (fun q => q.2)
                refine lv_iload_n C.1 C.2.1 dX11_fault_59 rfl (lv_at hl 0 rfl) ?_
                rw [hQ]
                have hP9 : ∃ z : Int, (some (Value.int (iI p))) = some (.int (iI z)) ∧ (FaultR t ln z) ∧ (z = -4 → LayM t ln lw ri2_53.toNat ln rd2_53 ∧ LawR rd2_53) ∧ (0 ≤ ri2_53 ∧ ri2_53 ≤ 40) ∧ (BD rd2_53) ∧ (0 ≤ pl2_53 ∧ pl2_53 ≤ ln) ∧ (-4 ≤ z ∧ z ≤ 120) := ⟨_, rfl, ⟨it.toNat, p, hCh, Or.inl ⟨rfl, by omega, hI⟩⟩, (fun q9 => by omega), (by first | omega | assumption | (intros; first | rfl | omega | assumption | (and_intros <;> first | rfl | omega | assumption))), hz_53_1, (by first | omega | assumption | (intros; first | rfl | omega | assumption | (and_intros <;> first | rfl | omega | assumption))), (by first | omega | assumption | (intros; first | rfl | omega | assumption | (and_intros <;> first | rfl | omega | assumption)))⟩
                exact z_iret C hr hlocks hW (pl2_53, ri2_53, rd2_53) rfl hP9 dX11_fault_60
        exact cut_36 (((ln - 0) + 1 : Int)).toNat 0 0 rd1 (by first | omega | assumption | (intros; first | rfl | omega | assumption | (and_intros <;> first | rfl | omega | assumption))) (by first | omega | assumption | (intros; first | rfl | omega | assumption | (and_intros <;> first | rfl | omega | assumption))) hrd1 (LayM_congr (fun j j0 j1 => he j j0 (by omega)) LayM_0) (LawR_congr (fun j j0 j1 => he j j0 (by omega)) hLw) (by omega) _ _ _ hW (lv_sub hl [1] rfl)
      ·
        refine lv_aload_n C.1 C.2.1 dX11_fault_18 rfl (lv_at hl 1 rfl) ?_
        refine z_get C hK hW hin11 (v := .ref a4) 0 rfl rfl 4 (by decide) (C.2.2.2.2 (.fieldLink RX11 17 "TellingRowsModel" "read" "[I") (List.mem_of_getElem? (i := 3) rfl)) (fun _ h9 => h9) rfl dX11_fault_19 ?_
        refine lv_iload_n C.1 C.2.1 dX11_fault_22 rfl (lv_at hl 0 rfl) ?_
        refine lv_aload_n C.1 C.2.1 dX11_fault_23 rfl (lv_at hl 1 rfl) ?_
        refine z_get C hK hW hin11 (v := .ref a3) 0 rfl rfl 3 (by decide) (C.2.2.2.2 (.fieldLink RX11 13 "TellingRowsModel" "law" "[I") (List.mem_of_getElem? (i := 4) rfl)) (fun _ h9 => h9) rfl dX11_fault_24 ?_
        refine lv_iload_n C.1 C.2.1 dX11_fault_27 rfl (lv_at hl 0 rfl) ?_
        refine z_iald C hK hW 2 rfl (by omega) (by omega) dX11_fault_28 ?_
        have hb_28 := hlw k
        refine z_iast C hK hW 3 rfl (by omega) (by omega) dX11_fault_29 (fun H locs hW => ?_)
        have hbd_29 : BD (up rd1 k (lw k)) := BD.up hrd1 (by omega)
        have hW : Wd G A s9.heap [(x, .inr (9, [.int (iI ln), .ref a1, .int (iI 0), .ref a3, .ref a4, .int (iI 0), .int (iI ld), .int (iI mn), .ref a8, .ref a9, .int (iI nn), .ref a11, .int (iI fn), .ref a13, .int (iI lm), .ref a15, .ref a16, .ref a17, .ref a18, .ref a19, .ref a20])), (a1, .inl (G.2.1 1, 120, .inl (iA t))), (a3, .inl (G.2.1 0, 32, .inl (iA lw))), (a4, .inl (G.2.1 0, 32, .inl (iA (up rd1 k (lw k)))))] H locs := hW
        refine lv_iinc (v := iI (k + 1)) (lv' := [(1, .int (iI (k + 1))), (0, .ref x)]) C.1 C.2.1 dX11_fault_30 hl (k := 0) rfl (iI_add _ _) (by decide) rfl (fun ls hl => ?_)
        refine lv_goto (tgt := 12) C.1 C.2.1 dX11_fault_33 (by decide) ?_
        exact ih_12 (k + 1) (up rd1 k (lw k)) (by first | omega | assumption | (intros; first | rfl | omega | assumption | (and_intros <;> first | rfl | omega | assumption))) hbd_29 (up_pre he rfl) (by omega) _ _ _ hW (lv_sub hl [0, 1] rfl)
  exact cut_12 (((32 - 0) + 1 : Int)).toNat 0 rd (by first | omega | assumption | (intros; first | rfl | omega | assumption | (and_intros <;> first | rfl | omega | assumption))) hrd0 (fun j j0 j1 => by omega) (by omega) _ _ _ hW (lv_sub hl [0, 1] rfl)
set_option maxHeartbeats 4000000 in
set_option maxRecDepth 100000 in
/-- lay -/
theorem c_X11_lay (l : Launch) (G : GG) (x : Nat) (ln : Int) (a1 : Nat) (pl : Int) (a3 : Nat) (a4 : Nat) (ri : Int) (ld : Int) (mn : Int) (a8 : Nat) (a9 : Nat) (nn : Int) (a11 : Nat) (fn : Int) (a13 : Nat) (lm : Int) (a15 : Nat) (a16 : Nat) (a17 : Nat) (a18 : Nat) (a19 : Nat) (a20 : Nat) (t : Int → Int) (lw : Int → Int) (rd : Int → Int) (hT : 0 ≤ ln ∧ ln ≤ 120) (ht : BD t) (hlw : BD lw) (hrd0 : BD rd) (hLw : LawR lw) : MQc l yX11_lay wsX11_lay 4 G [.ref x] [(x, .inr (9, [.int (iI ln), .ref a1, .int (iI pl), .ref a3, .ref a4, .int (iI ri), .int (iI ld), .int (iI mn), .ref a8, .ref a9, .int (iI nn), .ref a11, .int (iI fn), .ref a13, .int (iI lm), .ref a15, .ref a16, .ref a17, .ref a18, .ref a19, .ref a20])), (a1, .inl (G.2.1 1, 120, .inl (iA t))), (a3, .inl (G.2.1 0, 32, .inl (iA lw))), (a4, .inl (G.2.1 0, 32, .inl (iA rd)))] (fun r (u : Int × Int × (Int → Int) × (Int → Int) × Int) => ∃ z : Int, r = some (.int (iI z)) ∧ ((∃ p, FaultR t ln p ∧ p ≠ -4 ∧ z = -2 ∧ u.2.2.2.1 = lw ∧ u.2.2.2.2 = ld) ∨ (FaultR t ln (-4) ∧ (0 ≤ z ∧ z ≤ 40) ∧ u.2.2.2.2 = -1 ∧ LayM t ln lw z.toNat ln u.2.2.2.1 ∧ LawR u.2.2.2.1)) ∧ (BD u.2.2.1) ∧ (BD u.2.2.2.1) ∧ (0 ≤ u.1 ∧ u.1 ≤ ln)) (fun u => [(x, .inr (9, [.int (iI ln), .ref a1, .int (iI u.1), .ref a3, .ref a4, .int (iI u.2.1), .int (iI u.2.2.2.2), .int (iI mn), .ref a8, .ref a9, .int (iI nn), .ref a11, .int (iI fn), .ref a13, .int (iI lm), .ref a15, .ref a16, .ref a17, .ref a18, .ref a19, .ref a20])), (a1, .inl (G.2.1 1, 120, .inl (iA t))), (a3, .inl (G.2.1 0, 32, .inl (iA u.2.2.2.1))), (a4, .inl (G.2.1 0, 32, .inl (iA u.2.2.1)))]) := by
  refine MQc.start (own := RX11) (by decide) rfl rfl (Nat.le_of_ble_eq_true rfl) ?_
  intro p9 e9 s9 m9 args below meth c9 A Q C hK hW hA hr hlocks hQ ls hl
  have hl : lv_has ls 2 [(0, .ref x)] := hl
  have hin11 : ∀ w ∈ wsX110, w ∈ wsX11_lay := by decide +kernel
  refine lv_aload_n C.1 C.2.1 dX11_lay_0 rfl (lv_at hl 0 rfl) ?_
  refine z_call (va_runV (As := []) (rest := []) C (c_X11_fault l G x ln a1 pl a3 a4 ri ld mn a8 a9 nn a11 fn a13 lm a15 a16 a17 a18 a19 a20 t lw rd hT ht hlw hrd0 hLw s9.heap.size) (cwV 0 C.2.2.2.2 gX11_lay_X11_fault rfl rfl rfl (by decide +kernel) ⟨Nat.le_of_ble_eq_true rfl, Nat.le_of_ble_eq_true rfl⟩) (z_preV hK hW hA [0, 1, 2, 3] rfl (by decide) (ci := 9) (q0 := 0) rfl rfl) rfl rfl hl.1 rfl (lv_room (Nat.le_of_ble_eq_true rfl)) dX11_lay_1 ⟨Nat.zero_le _, Nat.zero_le _⟩) hW hA [0, 1, 2, 3] rfl (by decide) (fun _ => rfl) (fun r u H locs hp hW => ?_)
  obtain ⟨pl2_1, ri2_1, rd2_1⟩ := u
  have hp : ∃ z : Int, r = some (.int (iI z)) ∧ (FaultR t ln z) ∧ (z = -4 → LayM t ln lw ri2_1.toNat ln rd2_1 ∧ LawR rd2_1) ∧ (0 ≤ ri2_1 ∧ ri2_1 ≤ 40) ∧ (BD rd2_1) ∧ (0 ≤ pl2_1 ∧ pl2_1 ≤ ln) ∧ (-4 ≤ z ∧ z ≤ 120) := hp
  obtain ⟨z_1, rfl, hz_1_0, hz_1_1, hz_1_2, hz_1_3, hz_1_4, hz_1_5⟩ := hp
  have hW : Wd G A s9.heap [(x, .inr (9, [.int (iI ln), .ref a1, .int (iI pl2_1), .ref a3, .ref a4, .int (iI ri2_1), .int (iI ld), .int (iI mn), .ref a8, .ref a9, .int (iI nn), .ref a11, .int (iI fn), .ref a13, .int (iI lm), .ref a15, .ref a16, .ref a17, .ref a18, .ref a19, .ref a20])), (a1, .inl (G.2.1 1, 120, .inl (iA t))), (a3, .inl (G.2.1 0, 32, .inl (iA lw))), (a4, .inl (G.2.1 0, 32, .inl (iA rd2_1)))] H locs := hW
  refine lv_bipush (v := iI (-4)) C.1 C.2.1 dX11_lay_4 (by decide +kernel) ?_
  refine z_icmp_eq (tgt := 12) C dX11_lay_6 (by decide) (by omega) (fun c_6 => ?_) (fun c_6 => ?_)
  ·
    have hz4 := hz_1_1 c_6
    refine lv_iconst (v := iI 0) C.1 C.2.1 dX11_lay_12 rfl ?_
    refine lv_istore_n (lv' := [(1, .int (iI 0)), (0, .ref x)]) C.1 C.2.1 dX11_lay_13 rfl hl (by decide) rfl (fun ls hl => ?_)
    have cut_14 : ∀ (n9 : Nat) (k : Int) (lw1 : Int → Int), (0 ≤ k ∧ k ≤ 32) → (BD lw1) → (∀ j, 0 ≤ j → j < k → lw1 j = rd2_1 j) → (32 - k < (n9 : Int)) → ∀ (H : Heap) (locs : List Loc) (ls : Array Slot), Wd G A s9.heap [(x, .inr (9, [.int (iI ln), .ref a1, .int (iI pl2_1), .ref a3, .ref a4, .int (iI ri2_1), .int (iI ld), .int (iI mn), .ref a8, .ref a9, .int (iI nn), .ref a11, .int (iI fn), .ref a13, .int (iI lm), .ref a15, .ref a16, .ref a17, .ref a18, .ref a19, .ref a20])), (a1, .inl (G.2.1 1, 120, .inl (iA t))), (a3, .inl (G.2.1 0, 32, .inl (iA lw1))), (a4, .inl (G.2.1 0, 32, .inl (iA rd2_1)))] H locs → lv_has ls 2 [(1, .int (iI k)), (0, .ref x)] → W p9 l e9 (rmL 4) s9 m9 args below meth c9 H locs 0 0 Q (F0 m9 14 ls []) := by
      intro n9
      induction n9 with
      | zero => intro k lw1 hk hlw1 he hmu; intros; exfalso; omega
      | succ n9 ih_14 =>
        intro k lw1 hk hlw1 he hmu H locs ls hW hl
        refine lv_iload_n C.1 C.2.1 dX11_lay_14 rfl (lv_at hl 0 rfl) ?_
        refine lv_bipush (v := iI 32) C.1 C.2.1 dX11_lay_15 (by decide +kernel) ?_
        refine z_icmp_ge (tgt := 38) C dX11_lay_17 (by decide) (by omega) (fun c_17 => ?_) (fun c_17 => ?_)
        ·
          refine lv_aload_n C.1 C.2.1 dX11_lay_38 rfl (lv_at hl 1 rfl) ?_
          refine lv_iconst (v := iI (-1)) C.1 C.2.1 dX11_lay_39 rfl ?_
          refine z_put C hK hW hin11 tyX11 tyX11_ok nmX11 0 rfl rfl 6 (by decide) (C.2.2.2.2 (.fieldLink RX11 20 "TellingRowsModel" "laid" "I") (List.mem_of_getElem? (i := 3) rfl)) (fun _ h9 => h9) rfl rfl rfl (Nat.le_of_ble_eq_true rfl) dX11_lay_40 (fun H locs hW => ?_)
          have hW : Wd G A s9.heap [(x, .inr (9, [.int (iI ln), .ref a1, .int (iI pl2_1), .ref a3, .ref a4, .int (iI ri2_1), .int (iI (-1)), .int (iI mn), .ref a8, .ref a9, .int (iI nn), .ref a11, .int (iI fn), .ref a13, .int (iI lm), .ref a15, .ref a16, .ref a17, .ref a18, .ref a19, .ref a20])), (a1, .inl (G.2.1 1, 120, .inl (iA t))), (a3, .inl (G.2.1 0, 32, .inl (iA lw1))), (a4, .inl (G.2.1 0, 32, .inl (iA rd2_1)))] H locs := hW
          refine lv_aload_n C.1 C.2.1 dX11_lay_43 rfl (lv_at hl 1 rfl) ?_
          refine z_get C hK hW hin11 (v := .int (iI ri2_1)) 0 rfl rfl 5 (by decide) (C.2.2.2.2 (.fieldLink RX11 86 "TellingRowsModel" "readItems" "I") (List.mem_of_getElem? (i := 4) rfl)) (fun _ h9 => h9) rfl dX11_lay_44 ?_
          rw [hQ]
          have hP9 : ∃ z : Int, (some (Value.int (iI ri2_1))) = some (.int (iI z)) ∧ ((∃ p, FaultR t ln p ∧ p ≠ -4 ∧ z = -2 ∧ lw1 = lw ∧ ((-1) : Int) = ld) ∨ (FaultR t ln (-4) ∧ (0 ≤ z ∧ z ≤ 40) ∧ ((-1) : Int) = -1 ∧ LayM t ln lw z.toNat ln lw1 ∧ LawR lw1)) ∧ (BD rd2_1) ∧ (BD lw1) ∧ (0 ≤ pl2_1 ∧ pl2_1 ≤ ln) := ⟨_, rfl, (Or.inr ⟨by rw [← c_6]; exact hz_1_0, hz_1_2, rfl, LayM_congr (fun j j0 j1 => he j j0 (by omega)) hz4.1, LawR_congr (fun j j0 j1 => he j j0 (by omega)) hz4.2⟩), hz_1_3, hlw1, hz_1_4⟩
          exact z_iret C hr hlocks hW (pl2_1, ri2_1, rd2_1, lw1, (-1)) rfl hP9 dX11_lay_47
        ·
          refine lv_aload_n C.1 C.2.1 dX11_lay_20 rfl (lv_at hl 1 rfl) ?_
          refine z_get C hK hW hin11 (v := .ref a3) 0 rfl rfl 3 (by decide) (C.2.2.2.2 (.fieldLink RX11 13 "TellingRowsModel" "law" "[I") (List.mem_of_getElem? (i := 1) rfl)) (fun _ h9 => h9) rfl dX11_lay_21 ?_
          refine lv_iload_n C.1 C.2.1 dX11_lay_24 rfl (lv_at hl 0 rfl) ?_
          refine lv_aload_n C.1 C.2.1 dX11_lay_25 rfl (lv_at hl 1 rfl) ?_
          refine z_get C hK hW hin11 (v := .ref a4) 0 rfl rfl 4 (by decide) (C.2.2.2.2 (.fieldLink RX11 17 "TellingRowsModel" "read" "[I") (List.mem_of_getElem? (i := 2) rfl)) (fun _ h9 => h9) rfl dX11_lay_26 ?_
          refine lv_iload_n C.1 C.2.1 dX11_lay_29 rfl (lv_at hl 0 rfl) ?_
          refine z_iald C hK hW 3 rfl (by omega) (by omega) dX11_lay_30 ?_
          have hb_30 := hz_1_3 k
          refine z_iast C hK hW 2 rfl (by omega) (by omega) dX11_lay_31 (fun H locs hW => ?_)
          have hbd_31 : BD (up lw1 k (rd2_1 k)) := BD.up hlw1 (by omega)
          have hW : Wd G A s9.heap [(x, .inr (9, [.int (iI ln), .ref a1, .int (iI pl2_1), .ref a3, .ref a4, .int (iI ri2_1), .int (iI ld), .int (iI mn), .ref a8, .ref a9, .int (iI nn), .ref a11, .int (iI fn), .ref a13, .int (iI lm), .ref a15, .ref a16, .ref a17, .ref a18, .ref a19, .ref a20])), (a1, .inl (G.2.1 1, 120, .inl (iA t))), (a3, .inl (G.2.1 0, 32, .inl (iA (up lw1 k (rd2_1 k))))), (a4, .inl (G.2.1 0, 32, .inl (iA rd2_1)))] H locs := hW
          refine lv_iinc (v := iI (k + 1)) (lv' := [(1, .int (iI (k + 1))), (0, .ref x)]) C.1 C.2.1 dX11_lay_32 hl (k := 0) rfl (iI_add _ _) (by decide) rfl (fun ls hl => ?_)
          refine lv_goto (tgt := 14) C.1 C.2.1 dX11_lay_35 (by decide) ?_
          exact ih_14 (k + 1) (up lw1 k (rd2_1 k)) (by first | omega | assumption | (intros; first | rfl | omega | assumption | (and_intros <;> first | rfl | omega | assumption))) hbd_31 (up_pre he rfl) (by omega) _ _ _ hW (lv_sub hl [0, 1] rfl)
    exact cut_14 (((32 - 0) + 1 : Int)).toNat 0 lw (by first | omega | assumption | (intros; first | rfl | omega | assumption | (and_intros <;> first | rfl | omega | assumption))) hlw (fun j j0 j1 => by omega) (by omega) _ _ _ hW (lv_sub hl [0, 1] rfl)
  ·
    refine lv_bipush (v := iI (-2)) C.1 C.2.1 dX11_lay_9 (by decide +kernel) ?_
    rw [hQ]
    have hP9 : ∃ z : Int, (some (Value.int (iI (-2)))) = some (.int (iI z)) ∧ ((∃ p, FaultR t ln p ∧ p ≠ -4 ∧ z = -2 ∧ lw = lw ∧ ld = ld) ∨ (FaultR t ln (-4) ∧ (0 ≤ z ∧ z ≤ 40) ∧ ld = -1 ∧ LayM t ln lw z.toNat ln lw ∧ LawR lw)) ∧ (BD rd2_1) ∧ (BD lw) ∧ (0 ≤ pl2_1 ∧ pl2_1 ≤ ln) := ⟨_, rfl, (Or.inl ⟨z_1, hz_1_0, c_6, rfl, rfl, rfl⟩), hz_1_3, hlw, hz_1_4⟩
    exact z_iret C hr hlocks hW (pl2_1, ri2_1, rd2_1, lw, ld) rfl hP9 dX11_lay_11
