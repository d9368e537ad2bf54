set_option maxHeartbeats 4000000 in
set_option maxRecDepth 100000 in
/-- the law's loop -/
theorem law_loop {p9 : Program} {e9 : Env} {s9 : State} {m9 : MethodId} {b : Nat} {below : List Frame} {meth : Method} {c9 : Code} {A : Nat → Prop} {Q : State → Prop} (l : Launch) (G : GG) (C : CallFix p9 m9 c9 code 4 s9 #[Value.ref b] wsL_law RL) (hK : KG G A s9 s9.heap) (hA : ∀ q, s9.heap.size ≤ q → A q) {L : Nat} {xs : Nat → Int32} (hS9 : va_X b L xs s9 s9.heap) (hbl : b < s9.heap.size) (hbA : ¬ A b) (hL : L ≤ 2048) {x y : Nat} (kx : ∀ (H : Heap) (locs : List Loc) (ls : Array Slot), LI G A s9 x y H locs → W p9 l e9 room_1 s9 m9 #[Value.ref b] below meth c9 H locs 600000 7302250 Q (F0 m9 792 ls [])) : ∀ (n9 : Nat) (i : Int) (H : Heap) (locs : List Loc) (ls : Array Slot), 0 ≤ i → i ≤ L → L - i < n9 → LI G A s9 x y H locs → lv_has ls 4 [(0, .ref b), (1, .ref x), (2, .ref y), (3, .int (iI i))] → W p9 l e9 room_1 s9 m9 #[Value.ref b] below meth c9 H locs 600000 7302250 Q (F0 m9 18 ls []) := by
  intro n9
  induction n9 with
  | zero => intro i H locs ls h0 h1 h2; omega
  | succ n9 ih =>
    intro i H locs ls h0 h1 h2 hI hl
    have hI9 := hI
    obtain ⟨t, T, S, n, B, nn, nf, fn, ff, wx, wm, hO, hX, hM, hW⟩ := hI9
    refine lv_iload_n C.1 C.2.1 dL_law_18 rfl (lv_at hl 3 rfl) ?_
    refine lv_aload_n C.1 C.2.1 dL_law_19 rfl (lv_at hl 0 rfl) ?_
    refine z_slen C hS9 hbl hbA hW dL_law_20 ?_
    refine lv_iconst (v := iI 4) C.1 C.2.1 dL_law_21 rfl ?_
    refine z_isub C dL_law_22 ?_
    refine z_icmp_gt (tgt := 792) C dL_law_23 (by decide) ⟨⟨by omega, by omega⟩, by omega, by omega⟩ (fun _ => kx _ _ _ hI) (fun c8 => ?_)
    have k9 : ∀ (H : Heap) (locs : List Loc), LI G A s9 x y H locs → W p9 l e9 room_1 s9 m9 #[Value.ref b] below meth c9 H locs 600000 7302250 Q (F0 m9 786 ls []) := by
      intro H locs hI
      refine lv_iinc (v := iI (i + 4)) (lv' := [(3, .int (iI (i + 4))), (0, .ref b), (1, .ref x), (2, .ref y)]) C.1 C.2.1 dL_law_786 hl (k := 3) rfl (iI_add i 4) (by decide) rfl (fun ls hl => ?_)
      refine lv_goto (tgt := 18) C.1 C.2.1 dL_law_789 (by decide) ?_
      exact ih (i + 4) H locs ls (by omega) (by omega) (by omega) hI (lv_sub hl [1, 2, 3, 0] rfl)
    have hi : 0 ≤ i ∧ i + 4 ≤ L := ⟨h0, by omega⟩
    refine lv_aload_n C.1 C.2.1 dL_law_26 rfl (lv_at hl 0 rfl) ?_
    refine lv_iload_n C.1 C.2.1 dL_law_27 rfl (lv_at hl 3 rfl) ?_
    refine z_sld C hS9 hbl hbA hW hL (by omega) dL_law_28 ?_
    refine lv_bipush (v := iI 31) C.1 C.2.1 dL_law_29 rfl ?_
    refine lv_iand C.1 C.2.1 dL_law_31 ?_
    obtain ⟨k, ek, k0, k1⟩ := iI_and31 (iI (sv xs i))
    rw [ek]
    rcases (show k = 0 ∨ k = 1 ∨ k = 2 ∨ k = 3 ∨ k = 4 ∨ k = 5 ∨ k = 6 ∨ k = 7 ∨ k = 8 ∨ k = 9 ∨ k = 10 ∨ k = 11 ∨ k = 12 ∨ k = 13 ∨ k = 14 ∨ k = 15 ∨ k = 16 ∨ k = 17 ∨ k = 18 ∨ k = 19 ∨ k = 20 ∨ k = 21 ∨ k = 22 ∨ 23 ≤ k by omega) with e | e | e | e | e | e | e | e | e | e | e | e | e | e | e | e | e | e | e | e | e | e | e | e
    · subst e
      refine lv_tableIn (off := 108) (tgt := 140) C.1 C.2.1 dL_law_32 (by decide +kernel) (by decide +kernel) (by decide +kernel) (by decide) ?_
      exact k_write l G C hK hA hS9 hbl hbA hL hi hI hl k9
    · subst e
      refine lv_tableIn (off := 171) (tgt := 203) C.1 C.2.1 dL_law_32 (by decide +kernel) (by decide +kernel) (by decide +kernel) (by decide) ?_
      exact k_wipe l G C hK hA hS9 hbl hbA hL hi hI hl k9
    · subst e
      refine lv_tableIn (off := 184) (tgt := 216) C.1 C.2.1 dL_law_32 (by decide +kernel) (by decide +kernel) (by decide +kernel) (by decide) ?_
      exact k_fault l G C hK hA hS9 hbl hbA hL hi hI hl k9
    · subst e
      refine lv_tableIn (off := 197) (tgt := 229) C.1 C.2.1 dL_law_32 (by decide +kernel) (by decide +kernel) (by decide +kernel) (by decide) ?_
      exact k_lay l G C hK hA hS9 hbl hbA hL hi hI hl k9
    · subst e
      refine lv_tableIn (off := 210) (tgt := 242) C.1 C.2.1 dL_law_32 (by decide +kernel) (by decide +kernel) (by decide +kernel) (by decide) ?_
      exact k_told l G C hK hA hS9 hbl hbA hL hi hI hl k9
    · subst e
      refine lv_tableIn (off := 243) (tgt := 275) C.1 C.2.1 dL_law_32 (by decide +kernel) (by decide +kernel) (by decide +kernel) (by decide) ?_
      exact k_at l G C hK hA hS9 hbl hbA hL hi hI hl k9
    · subst e
      refine lv_tableIn (off := 276) (tgt := 308) C.1 C.2.1 dL_law_32 (by decide +kernel) (by decide +kernel) (by decide +kernel) (by decide) ?_
      exact k_first l G C hK hA hS9 hbl hbA hL hi hI hl k9
    · subst e
      refine lv_tableIn (off := 309) (tgt := 341) C.1 C.2.1 dL_law_32 (by decide +kernel) (by decide +kernel) (by decide +kernel) (by decide) ?_
      exact k_often l G C hK hA hS9 hbl hbA hL hi hI hl k9
    · subst e
      refine lv_tableIn (off := 352) (tgt := 384) C.1 C.2.1 dL_law_32 (by decide +kernel) (by decide +kernel) (by decide +kernel) (by decide) ?_
      exact k_run l G C hK hA hS9 hbl hbA hL hi hI hl k9
    · subst e
      refine lv_tableIn (off := 395) (tgt := 427) C.1 C.2.1 dL_law_32 (by decide +kernel) (by decide +kernel) (by decide +kernel) (by decide) ?_
      exact k_most l G C hK hA hS9 hbl hbA hL hi hI hl k9
    · subst e
      refine lv_tableIn (off := 438) (tgt := 470) C.1 C.2.1 dL_law_32 (by decide +kernel) (by decide +kernel) (by decide +kernel) (by decide) ?_
      exact k_around l G C hK hA hS9 hbl hbA hL hi hI hl k9
    · subst e
      refine lv_tableIn (off := 471) (tgt := 503) C.1 C.2.1 dL_law_32 (by decide +kernel) (by decide +kernel) (by decide +kernel) (by decide) ?_
      exact k_number l G C hK hA hS9 hbl hbA hL hi hI hl k9
    · subst e
      refine lv_tableIn (off := 494) (tgt := 526) C.1 C.2.1 dL_law_32 (by decide +kernel) (by decide +kernel) (by decide +kernel) (by decide) ?_
      exact k_noNumbers l G C hK hA hS9 hbl hbA hL hi hI hl k9
    · subst e
      refine lv_tableIn (off := 507) (tgt := 539) C.1 C.2.1 dL_law_32 (by decide +kernel) (by decide +kernel) (by decide +kernel) (by decide) ?_
      exact k_breaks l G C hK hA hS9 hbl hbA hL hi hI hl k9
    · subst e
      refine lv_tableIn (off := 530) (tgt := 562) C.1 C.2.1 dL_law_32 (by decide +kernel) (by decide +kernel) (by decide +kernel) (by decide) ?_
      exact k_may l G C hK hA hS9 hbl hbA hL hi hI hl k9
    · subst e
      refine lv_tableIn (off := 543) (tgt := 575) C.1 C.2.1 dL_law_32 (by decide +kernel) (by decide +kernel) (by decide +kernel) (by decide) ?_
      exact k_figure l G C hK hA hS9 hbl hbA hL hi hI hl k9
    · subst e
      refine lv_tableIn (off := 566) (tgt := 598) C.1 C.2.1 dL_law_32 (by decide +kernel) (by decide +kernel) (by decide +kernel) (by decide) ?_
      exact k_noFigures l G C hK hA hS9 hbl hbA hL hi hI hl k9
    · subst e
      refine lv_tableIn (off := 579) (tgt := 611) C.1 C.2.1 dL_law_32 (by decide +kernel) (by decide +kernel) (by decide +kernel) (by decide) ?_
      exact k_said l G C hK hA hS9 hbl hbA hL hi hI hl k9
    · subst e
      refine lv_tableIn (off := 638) (tgt := 670) C.1 C.2.1 dL_law_32 (by decide +kernel) (by decide +kernel) (by decide +kernel) (by decide) ?_
      exact k_unsaid l G C hK hA hS9 hbl hbA hL hi hI hl k9
    · subst e
      refine lv_tableIn (off := 661) (tgt := 693) C.1 C.2.1 dL_law_32 (by decide +kernel) (by decide +kernel) (by decide +kernel) (by decide) ?_
      exact k_backs l G C hK hA hS9 hbl hbA hL hi hI hl k9
    · subst e
      refine lv_tableIn (off := 674) (tgt := 706) C.1 C.2.1 dL_law_32 (by decide +kernel) (by decide +kernel) (by decide +kernel) (by decide) ?_
      exact k_round l G C hK hA hS9 hbl hbA hL hi hI hl k9
    · subst e
      refine lv_tableIn (off := 697) (tgt := 729) C.1 C.2.1 dL_law_32 (by decide +kernel) (by decide +kernel) (by decide +kernel) (by decide) ?_
      exact k_tellers l G C hK hA hS9 hbl hbA hL hi hI hl k9
    · subst e
      refine lv_tableIn (off := 731) (tgt := 763) C.1 C.2.1 dL_law_32 (by decide +kernel) (by decide +kernel) (by decide +kernel) (by decide) ?_
      exact k_count l G C hK hA hS9 hbl hbA hL hi hI hl k9
    · refine lv_tableOut (tgt := 786) C.1 C.2.1 dL_law_32 (Or.inr (by rw [iI_toInt (by omega) (by omega)]; omega)) (by decide) ?_
      exact k9 _ _ hI
