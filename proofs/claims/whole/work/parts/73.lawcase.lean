set_option maxHeartbeats 4000000 in
set_option maxRecDepth 100000 in
theorem k_noFigures {p9 : Program} {e9 : Env} {s9 : State} {m9 : MethodId} {b : Nat} {below : List Frame} {meth : Method} {c9 : Code} {A : Nat → Prop} {Q : State → Prop} {H : Heap} {locs : List Loc} {ls : Array Slot} (l : Launch) (G : GG) (C : CallFix p9 m9 c9 code 4 s9 #[Value.ref b] wsL_law RL) (hK : KG G A s9 s9.heap) (hA : ∀ q, s9.heap.size ≤ q → A q) {L : Nat} {xs : Nat → Int32} (hS9 : va_X b L xs s9 s9.heap) (hbl : b < s9.heap.size) (hbA : ¬ A b) (hL : L ≤ 2048) {x y : Nat} {i : Int} (hi : 0 ≤ i ∧ i + 4 ≤ L) (hI : LI G A s9 x y H locs) (hl : lv_has ls 4 [(0, .ref b), (1, .ref x), (2, .ref y), (3, .int (iI i))]) (kk : ∀ (H : Heap) (locs : List Loc), LI G A s9 x y H locs → W p9 l e9 room_1 s9 m9 #[Value.ref b] below meth c9 H locs 600000 7302250 Q (F0 m9 786 ls [])) : W p9 l e9 room_1 s9 m9 #[Value.ref b] below meth c9 H locs 600000 7302250 Q (F0 m9 598 ls []) := by
  obtain ⟨t, T, S, n, B, nn, nf, fn, ff, wx, wm, hO, hX, hM, hW⟩ := hI
  refine lv_aload_n C.1 C.2.1 dL_law_598 rfl (lv_at hl 1 rfl) ?_
  refine x_noFigures l G C hK hA   hO hX hW ⟨hl.1, trivial⟩ dL_law_599 (fun z fn2 wx H locs hO2 hX hans hW => ?_)
  refine lv_aload_n C.1 C.2.1 dL_law_602 rfl (lv_at hl 2 rfl) ?_
  refine y_noFigures l G C hK hA   hO hM hW ⟨hl.1, trivial⟩ dL_law_603 z hans (fun wm H locs hM hW => ?_)
  refine lv_icmp_eq (tgt := 786) C.1 C.2.1 dL_law_606 (by decide) (fun _ => ?_) (fun c8 => absurd rfl c8)
  exact kk _ _ ⟨_, _, _, _, _, _, _, _, _, _, _, hO2, hX, hM, hW⟩
set_option maxHeartbeats 4000000 in
set_option maxRecDepth 100000 in
theorem k_said {p9 : Program} {e9 : Env} {s9 : State} {m9 : MethodId} {b : Nat} {below : List Frame} {meth : Method} {c9 : Code} {A : Nat → Prop} {Q : State → Prop} {H : Heap} {locs : List Loc} {ls : Array Slot} (l : Launch) (G : GG) (C : CallFix p9 m9 c9 code 4 s9 #[Value.ref b] wsL_law RL) (hK : KG G A s9 s9.heap) (hA : ∀ q, s9.heap.size ≤ q → A q) {L : Nat} {xs : Nat → Int32} (hS9 : va_X b L xs s9 s9.heap) (hbl : b < s9.heap.size) (hbA : ¬ A b) (hL : L ≤ 2048) {x y : Nat} {i : Int} (hi : 0 ≤ i ∧ i + 4 ≤ L) (hI : LI G A s9 x y H locs) (hl : lv_has ls 4 [(0, .ref b), (1, .ref x), (2, .ref y), (3, .int (iI i))]) (kk : ∀ (H : Heap) (locs : List Loc), LI G A s9 x y H locs → W p9 l e9 room_1 s9 m9 #[Value.ref b] below meth c9 H locs 600000 7302250 Q (F0 m9 786 ls [])) : W p9 l e9 room_1 s9 m9 #[Value.ref b] below meth c9 H locs 600000 7302250 Q (F0 m9 611 ls []) := by
  obtain ⟨t, T, S, n, B, nn, nf, fn, ff, wx, wm, hO, hX, hM, hW⟩ := hI
  refine lv_aload_n C.1 C.2.1 dL_law_611 rfl (lv_at hl 1 rfl) ?_
  refine lv_aload_n C.1 C.2.1 dL_law_612 rfl (lv_at hl 0 rfl) ?_
  refine lv_iload_n C.1 C.2.1 dL_law_613 rfl (lv_at hl 3 rfl) ?_
  refine lv_iconst (v := iI 1) C.1 C.2.1 dL_law_614 rfl ?_
  refine z_iadd C dL_law_615 ?_
  refine z_sld C hS9 hbl hbA hW hL (by omega) dL_law_616 ?_
  refine z_if_eq (tgt := 624) C dL_law_617 (by decide) (sv_rg _ _) (fun c9 => ?_) (fun c9 => ?_)
  ·
    refine lv_iconst (v := iI 0) C.1 C.2.1 dL_law_624 rfl ?_
    refine lv_aload_n C.1 C.2.1 dL_law_625 rfl (lv_at hl 0 rfl) ?_
    refine lv_iload_n C.1 C.2.1 dL_law_626 rfl (lv_at hl 3 rfl) ?_
    refine lv_iconst (v := iI 2) C.1 C.2.1 dL_law_627 rfl ?_
    refine z_iadd C dL_law_628 ?_
    refine z_sld C hS9 hbl hbA hW hL (by omega) dL_law_629 ?_
    refine lv_aload_n C.1 C.2.1 dL_law_630 rfl (lv_at hl 0 rfl) ?_
    refine lv_iload_n C.1 C.2.1 dL_law_631 rfl (lv_at hl 3 rfl) ?_
    refine lv_iconst (v := iI 3) C.1 C.2.1 dL_law_632 rfl ?_
    refine z_iadd C dL_law_633 ?_
    refine z_sld C hS9 hbl hbA hW hL (by omega) dL_law_634 ?_
    refine x_said l G C hK hA 0 _ _ (by omega) (sv_rg _ _) (sv_rg _ _) hO hX hW ⟨hl.1, trivial⟩ dL_law_635 (fun z  wx H locs hX hans hW => ?_)
    refine lv_aload_n C.1 C.2.1 dL_law_638 rfl (lv_at hl 2 rfl) ?_
    refine lv_aload_n C.1 C.2.1 dL_law_639 rfl (lv_at hl 0 rfl) ?_
    refine lv_iload_n C.1 C.2.1 dL_law_640 rfl (lv_at hl 3 rfl) ?_
    refine lv_iconst (v := iI 1) C.1 C.2.1 dL_law_641 rfl ?_
    refine z_iadd C dL_law_642 ?_
    refine z_sld C hS9 hbl hbA hW hL (by omega) dL_law_643 ?_
    refine z_if_eq (tgt := 651) C dL_law_644 (by decide) (sv_rg _ _) (fun _ => ?_) (fun c8 => absurd c9 c8)
    refine lv_iconst (v := iI 0) C.1 C.2.1 dL_law_651 rfl ?_
    refine lv_aload_n C.1 C.2.1 dL_law_652 rfl (lv_at hl 0 rfl) ?_
    refine lv_iload_n C.1 C.2.1 dL_law_653 rfl (lv_at hl 3 rfl) ?_
    refine lv_iconst (v := iI 2) C.1 C.2.1 dL_law_654 rfl ?_
    refine z_iadd C dL_law_655 ?_
    refine z_sld C hS9 hbl hbA hW hL (by omega) dL_law_656 ?_
    refine lv_aload_n C.1 C.2.1 dL_law_657 rfl (lv_at hl 0 rfl) ?_
    refine lv_iload_n C.1 C.2.1 dL_law_658 rfl (lv_at hl 3 rfl) ?_
    refine lv_iconst (v := iI 3) C.1 C.2.1 dL_law_659 rfl ?_
    refine z_iadd C dL_law_660 ?_
    refine z_sld C hS9 hbl hbA hW hL (by omega) dL_law_661 ?_
    refine y_said l G C hK hA 0 _ _ (by omega) (sv_rg _ _) (sv_rg _ _) hO hM hW ⟨hl.1, trivial⟩ dL_law_662 z hans (fun wm H locs hM hW => ?_)
    refine lv_icmp_eq (tgt := 786) C.1 C.2.1 dL_law_665 (by decide) (fun _ => ?_) (fun c8 => absurd rfl c8)
    exact kk _ _ ⟨_, _, _, _, _, _, _, _, _, _, _, hO, hX, hM, hW⟩
  ·
    refine lv_iconst (v := iI 1) C.1 C.2.1 dL_law_620 rfl ?_
    refine lv_goto (tgt := 625) C.1 C.2.1 dL_law_621 (by decide) ?_
    refine lv_aload_n C.1 C.2.1 dL_law_625 rfl (lv_at hl 0 rfl) ?_
    refine lv_iload_n C.1 C.2.1 dL_law_626 rfl (lv_at hl 3 rfl) ?_
    refine lv_iconst (v := iI 2) C.1 C.2.1 dL_law_627 rfl ?_
    refine z_iadd C dL_law_628 ?_
    refine z_sld C hS9 hbl hbA hW hL (by omega) dL_law_629 ?_
    refine lv_aload_n C.1 C.2.1 dL_law_630 rfl (lv_at hl 0 rfl) ?_
    refine lv_iload_n C.1 C.2.1 dL_law_631 rfl (lv_at hl 3 rfl) ?_
    refine lv_iconst (v := iI 3) C.1 C.2.1 dL_law_632 rfl ?_
    refine z_iadd C dL_law_633 ?_
    refine z_sld C hS9 hbl hbA hW hL (by omega) dL_law_634 ?_
    refine x_said l G C hK hA 1 _ _ (by omega) (sv_rg _ _) (sv_rg _ _) hO hX hW ⟨hl.1, trivial⟩ dL_law_635 (fun z  wx H locs hX hans hW => ?_)
    refine lv_aload_n C.1 C.2.1 dL_law_638 rfl (lv_at hl 2 rfl) ?_
    refine lv_aload_n C.1 C.2.1 dL_law_639 rfl (lv_at hl 0 rfl) ?_
    refine lv_iload_n C.1 C.2.1 dL_law_640 rfl (lv_at hl 3 rfl) ?_
    refine lv_iconst (v := iI 1) C.1 C.2.1 dL_law_641 rfl ?_
    refine z_iadd C dL_law_642 ?_
    refine z_sld C hS9 hbl hbA hW hL (by omega) dL_law_643 ?_
    refine z_if_eq (tgt := 651) C dL_law_644 (by decide) (sv_rg _ _) (fun c8 => absurd c8 c9) (fun _ => ?_)
    refine lv_iconst (v := iI 1) C.1 C.2.1 dL_law_647 rfl ?_
    refine lv_goto (tgt := 652) C.1 C.2.1 dL_law_648 (by decide) ?_
    refine lv_aload_n C.1 C.2.1 dL_law_652 rfl (lv_at hl 0 rfl) ?_
    refine lv_iload_n C.1 C.2.1 dL_law_653 rfl (lv_at hl 3 rfl) ?_
    refine lv_iconst (v := iI 2) C.1 C.2.1 dL_law_654 rfl ?_
    refine z_iadd C dL_law_655 ?_
    refine z_sld C hS9 hbl hbA hW hL (by omega) dL_law_656 ?_
    refine lv_aload_n C.1 C.2.1 dL_law_657 rfl (lv_at hl 0 rfl) ?_
    refine lv_iload_n C.1 C.2.1 dL_law_658 rfl (lv_at hl 3 rfl) ?_
    refine lv_iconst (v := iI 3) C.1 C.2.1 dL_law_659 rfl ?_
    refine z_iadd C dL_law_660 ?_
    refine z_sld C hS9 hbl hbA hW hL (by omega) dL_law_661 ?_
    refine y_said l G C hK hA 1 _ _ (by omega) (sv_rg _ _) (sv_rg _ _) hO hM hW ⟨hl.1, trivial⟩ dL_law_662 z hans (fun wm H locs hM hW => ?_)
    refine lv_icmp_eq (tgt := 786) C.1 C.2.1 dL_law_665 (by decide) (fun _ => ?_) (fun c8 => absurd rfl c8)
    exact kk _ _ ⟨_, _, _, _, _, _, _, _, _, _, _, hO, hX, hM, hW⟩
set_option maxHeartbeats 4000000 in
set_option maxRecDepth 100000 in
theorem k_unsaid {p9 : Program} {e9 : Env} {s9 : State} {m9 : MethodId} {b : Nat} {below : List Frame} {meth : Method} {c9 : Code} {A : Nat → Prop} {Q : State → Prop} {H : Heap} {locs : List Loc} {ls : Array Slot} (l : Launch) (G : GG) (C : CallFix p9 m9 c9 code 4 s9 #[Value.ref b] wsL_law RL) (hK : KG G A s9 s9.heap) (hA : ∀ q, s9.heap.size ≤ q → A q) {L : Nat} {xs : Nat → Int32} (hS9 : va_X b L xs s9 s9.heap) (hbl : b < s9.heap.size) (hbA : ¬ A b) (hL : L ≤ 2048) {x y : Nat} {i : Int} (hi : 0 ≤ i ∧ i + 4 ≤ L) (hI : LI G A s9 x y H locs) (hl : lv_has ls 4 [(0, .ref b), (1, .ref x), (2, .ref y), (3, .int (iI i))]) (kk : ∀ (H : Heap) (locs : List Loc), LI G A s9 x y H locs → W p9 l e9 room_1 s9 m9 #[Value.ref b] below meth c9 H locs 600000 7302250 Q (F0 m9 786 ls [])) : W p9 l e9 room_1 s9 m9 #[Value.ref b] below meth c9 H locs 600000 7302250 Q (F0 m9 670 ls []) := by
  obtain ⟨t, T, S, n, B, nn, nf, fn, ff, wx, wm, hO, hX, hM, hW⟩ := hI
  refine lv_aload_n C.1 C.2.1 dL_law_670 rfl (lv_at hl 1 rfl) ?_
  refine lv_aload_n C.1 C.2.1 dL_law_671 rfl (lv_at hl 0 rfl) ?_
  refine lv_iload_n C.1 C.2.1 dL_law_672 rfl (lv_at hl 3 rfl) ?_
  refine lv_iconst (v := iI 1) C.1 C.2.1 dL_law_673 rfl ?_
  refine z_iadd C dL_law_674 ?_
  refine z_sld C hS9 hbl hbA hW hL (by omega) dL_law_675 ?_
  refine x_unsaid l G C hK hA _ (sv_rg _ _) hO hX hW ⟨hl.1, trivial⟩ dL_law_676 (fun z  wx H locs hX hans hW => ?_)
  refine lv_aload_n C.1 C.2.1 dL_law_679 rfl (lv_at hl 2 rfl) ?_
  refine lv_aload_n C.1 C.2.1 dL_law_680 rfl (lv_at hl 0 rfl) ?_
  refine lv_iload_n C.1 C.2.1 dL_law_681 rfl (lv_at hl 3 rfl) ?_
  refine lv_iconst (v := iI 1) C.1 C.2.1 dL_law_682 rfl ?_
  refine z_iadd C dL_law_683 ?_
  refine z_sld C hS9 hbl hbA hW hL (by omega) dL_law_684 ?_
  refine y_unsaid l G C hK hA _ (sv_rg _ _) hO hM hW ⟨hl.1, trivial⟩ dL_law_685 z hans (fun wm H locs hM hW => ?_)
  refine lv_icmp_eq (tgt := 786) C.1 C.2.1 dL_law_688 (by decide) (fun _ => ?_) (fun c8 => absurd rfl c8)
  exact kk _ _ ⟨_, _, _, _, _, _, _, _, _, _, _, hO, hX, hM, hW⟩
set_option maxHeartbeats 4000000 in
set_option maxRecDepth 100000 in
theorem k_backs {p9 : Program} {e9 : Env} {s9 : State} {m9 : MethodId} {b : Nat} {below : List Frame} {meth : Method} {c9 : Code} {A : Nat → Prop} {Q : State → Prop} {H : Heap} {locs : List Loc} {ls : Array Slot} (l : Launch) (G : GG) (C : CallFix p9 m9 c9 code 4 s9 #[Value.ref b] wsL_law RL) (hK : KG G A s9 s9.heap) (hA : ∀ q, s9.heap.size ≤ q → A q) {L : Nat} {xs : Nat → Int32} (hS9 : va_X b L xs s9 s9.heap) (hbl : b < s9.heap.size) (hbA : ¬ A b) (hL : L ≤ 2048) {x y : Nat} {i : Int} (hi : 0 ≤ i ∧ i + 4 ≤ L) (hI : LI G A s9 x y H locs) (hl : lv_has ls 4 [(0, .ref b), (1, .ref x), (2, .ref y), (3, .int (iI i))]) (kk : ∀ (H : Heap) (locs : List Loc), LI G A s9 x y H locs → W p9 l e9 room_1 s9 m9 #[Value.ref b] below meth c9 H locs 600000 7302250 Q (F0 m9 786 ls [])) : W p9 l e9 room_1 s9 m9 #[Value.ref b] below meth c9 H locs 600000 7302250 Q (F0 m9 693 ls []) := by
  obtain ⟨t, T, S, n, B, nn, nf, fn, ff, wx, wm, hO, hX, hM, hW⟩ := hI
  refine lv_aload_n C.1 C.2.1 dL_law_693 rfl (lv_at hl 1 rfl) ?_
  refine x_backs l G C hK hA   hO hX hW ⟨hl.1, trivial⟩ dL_law_694 (fun z  wx H locs hX hans hW => ?_)
  refine lv_aload_n C.1 C.2.1 dL_law_697 rfl (lv_at hl 2 rfl) ?_
  refine y_backs l G C hK hA   hO hM hW ⟨hl.1, trivial⟩ dL_law_698 z hans (fun wm H locs hM hW => ?_)
  refine lv_icmp_eq (tgt := 786) C.1 C.2.1 dL_law_701 (by decide) (fun _ => ?_) (fun c8 => absurd rfl c8)
  exact kk _ _ ⟨_, _, _, _, _, _, _, _, _, _, _, hO, hX, hM, hW⟩
set_option maxHeartbeats 4000000 in
set_option maxRecDepth 100000 in
theorem k_round {p9 : Program} {e9 : Env} {s9 : State} {m9 : MethodId} {b : Nat} {below : List Frame} {meth : Method} {c9 : Code} {A : Nat → Prop} {Q : State → Prop} {H : Heap} {locs : List Loc} {ls : Array Slot} (l : Launch) (G : GG) (C : CallFix p9 m9 c9 code 4 s9 #[Value.ref b] wsL_law RL) (hK : KG G A s9 s9.heap) (hA : ∀ q, s9.heap.size ≤ q → A q) {L : Nat} {xs : Nat → Int32} (hS9 : va_X b L xs s9 s9.heap) (hbl : b < s9.heap.size) (hbA : ¬ A b) (hL : L ≤ 2048) {x y : Nat} {i : Int} (hi : 0 ≤ i ∧ i + 4 ≤ L) (hI : LI G A s9 x y H locs) (hl : lv_has ls 4 [(0, .ref b), (1, .ref x), (2, .ref y), (3, .int (iI i))]) (kk : ∀ (H : Heap) (locs : List Loc), LI G A s9 x y H locs → W p9 l e9 room_1 s9 m9 #[Value.ref b] below meth c9 H locs 600000 7302250 Q (F0 m9 786 ls [])) : W p9 l e9 room_1 s9 m9 #[Value.ref b] below meth c9 H locs 600000 7302250 Q (F0 m9 706 ls []) := by
  obtain ⟨t, T, S, n, B, nn, nf, fn, ff, wx, wm, hO, hX, hM, hW⟩ := hI
  refine lv_aload_n C.1 C.2.1 dL_law_706 rfl (lv_at hl 1 rfl) ?_
  refine lv_aload_n C.1 C.2.1 dL_law_707 rfl (lv_at hl 0 rfl) ?_
  refine lv_iload_n C.1 C.2.1 dL_law_708 rfl (lv_at hl 3 rfl) ?_
  refine lv_iconst (v := iI 1) C.1 C.2.1 dL_law_709 rfl ?_
  refine z_iadd C dL_law_710 ?_
  refine z_sld C hS9 hbl hbA hW hL (by omega) dL_law_711 ?_
  refine x_round l G C hK hA _ (sv_rg _ _) hO hX hW ⟨hl.1, trivial⟩ dL_law_712 (fun z  wx H locs hX hans hW => ?_)
  refine lv_aload_n C.1 C.2.1 dL_law_715 rfl (lv_at hl 2 rfl) ?_
  refine lv_aload_n C.1 C.2.1 dL_law_716 rfl (lv_at hl 0 rfl) ?_
  refine lv_iload_n C.1 C.2.1 dL_law_717 rfl (lv_at hl 3 rfl) ?_
  refine lv_iconst (v := iI 1) C.1 C.2.1 dL_law_718 rfl ?_
  refine z_iadd C dL_law_719 ?_
  refine z_sld C hS9 hbl hbA hW hL (by omega) dL_law_720 ?_
  refine y_round l G C hK hA _ (sv_rg _ _) hO hM hW ⟨hl.1, trivial⟩ dL_law_721 z hans (fun wm H locs hM hW => ?_)
  refine lv_icmp_eq (tgt := 786) C.1 C.2.1 dL_law_724 (by decide) (fun _ => ?_) (fun c8 => absurd rfl c8)
  exact kk _ _ ⟨_, _, _, _, _, _, _, _, _, _, _, hO, hX, hM, hW⟩
set_option maxHeartbeats 4000000 in
set_option maxRecDepth 100000 in
theorem k_tellers {p9 : Program} {e9 : Env} {s9 : State} {m9 : MethodId} {b : Nat} {below : List Frame} {meth : Method} {c9 : Code} {A : Nat → Prop} {Q : State → Prop} {H : Heap} {locs : List Loc} {ls : Array Slot} (l : Launch) (G : GG) (C : CallFix p9 m9 c9 code 4 s9 #[Value.ref b] wsL_law RL) (hK : KG G A s9 s9.heap) (hA : ∀ q, s9.heap.size ≤ q → A q) {L : Nat} {xs : Nat → Int32} (hS9 : va_X b L xs s9 s9.heap) (hbl : b < s9.heap.size) (hbA : ¬ A b) (hL : L ≤ 2048) {x y : Nat} {i : Int} (hi : 0 ≤ i ∧ i + 4 ≤ L) (hI : LI G A s9 x y H locs) (hl : lv_has ls 4 [(0, .ref b), (1, .ref x), (2, .ref y), (3, .int (iI i))]) (kk : ∀ (H : Heap) (locs : List Loc), LI G A s9 x y H locs → W p9 l e9 room_1 s9 m9 #[Value.ref b] below meth c9 H locs 600000 7302250 Q (F0 m9 786 ls [])) : W p9 l e9 room_1 s9 m9 #[Value.ref b] below meth c9 H locs 600000 7302250 Q (F0 m9 729 ls []) := by
  obtain ⟨t, T, S, n, B, nn, nf, fn, ff, wx, wm, hO, hX, hM, hW⟩ := hI
  refine lv_aload_n C.1 C.2.1 dL_law_729 rfl (lv_at hl 1 rfl) ?_
  refine lv_aload_n C.1 C.2.1 dL_law_730 rfl (lv_at hl 0 rfl) ?_
  refine lv_iload_n C.1 C.2.1 dL_law_731 rfl (lv_at hl 3 rfl) ?_
  refine lv_iconst (v := iI 1) C.1 C.2.1 dL_law_732 rfl ?_
  refine z_iadd C dL_law_733 ?_
  refine z_sld C hS9 hbl hbA hW hL (by omega) dL_law_734 ?_
  refine lv_aload_n C.1 C.2.1 dL_law_735 rfl (lv_at hl 0 rfl) ?_
  refine lv_iload_n C.1 C.2.1 dL_law_736 rfl (lv_at hl 3 rfl) ?_
  refine lv_iconst (v := iI 2) C.1 C.2.1 dL_law_737 rfl ?_
  refine z_iadd C dL_law_738 ?_
  refine z_sld C hS9 hbl hbA hW hL (by omega) dL_law_739 ?_
  refine x_tellers l G C hK hA _ _ (sv_rg _ _) (sv_rg _ _) hO hX hW ⟨hl.1, trivial⟩ dL_law_740 (fun z  wx H locs hX hans hW => ?_)
  refine lv_aload_n C.1 C.2.1 dL_law_743 rfl (lv_at hl 2 rfl) ?_
  refine lv_aload_n C.1 C.2.1 dL_law_744 rfl (lv_at hl 0 rfl) ?_
  refine lv_iload_n C.1 C.2.1 dL_law_745 rfl (lv_at hl 3 rfl) ?_
  refine lv_iconst (v := iI 1) C.1 C.2.1 dL_law_746 rfl ?_
  refine z_iadd C dL_law_747 ?_
  refine z_sld C hS9 hbl hbA hW hL (by omega) dL_law_748 ?_
  refine lv_aload_n C.1 C.2.1 dL_law_749 rfl (lv_at hl 0 rfl) ?_
  refine lv_iload_n C.1 C.2.1 dL_law_750 rfl (lv_at hl 3 rfl) ?_
  refine lv_iconst (v := iI 2) C.1 C.2.1 dL_law_751 rfl ?_
  refine z_iadd C dL_law_752 ?_
  refine z_sld C hS9 hbl hbA hW hL (by omega) dL_law_753 ?_
  refine y_tellers l G C hK hA _ _ (sv_rg _ _) (sv_rg _ _) hO hM hW ⟨hl.1, trivial⟩ dL_law_754 z hans (fun wm H locs hM hW => ?_)
  refine W.lcmp C.1 C.2.1 dL_law_757 ?_
  refine lv_if_eq (tgt := 786) C.1 C.2.1 dL_law_758 (by decide) (fun _ => ?_) (fun c8 => absurd ((lg_cmp_eq _ _).mpr rfl) c8)
  exact kk _ _ ⟨_, _, _, _, _, _, _, _, _, _, _, hO, hX, hM, hW⟩
set_option maxHeartbeats 4000000 in
set_option maxRecDepth 100000 in
theorem k_count {p9 : Program} {e9 : Env} {s9 : State} {m9 : MethodId} {b : Nat} {below : List Frame} {meth : Method} {c9 : Code} {A : Nat → Prop} {Q : State → Prop} {H : Heap} {locs : List Loc} {ls : Array Slot} (l : Launch) (G : GG) (C : CallFix p9 m9 c9 code 4 s9 #[Value.ref b] wsL_law RL) (hK : KG G A s9 s9.heap) (hA : ∀ q, s9.heap.size ≤ q → A q) {L : Nat} {xs : Nat → Int32} (hS9 : va_X b L xs s9 s9.heap) (hbl : b < s9.heap.size) (hbA : ¬ A b) (hL : L ≤ 2048) {x y : Nat} {i : Int} (hi : 0 ≤ i ∧ i + 4 ≤ L) (hI : LI G A s9 x y H locs) (hl : lv_has ls 4 [(0, .ref b), (1, .ref x), (2, .ref y), (3, .int (iI i))]) (kk : ∀ (H : Heap) (locs : List Loc), LI G A s9 x y H locs → W p9 l e9 room_1 s9 m9 #[Value.ref b] below meth c9 H locs 600000 7302250 Q (F0 m9 786 ls [])) : W p9 l e9 room_1 s9 m9 #[Value.ref b] below meth c9 H locs 600000 7302250 Q (F0 m9 763 ls []) := by
  obtain ⟨t, T, S, n, B, nn, nf, fn, ff, wx, wm, hO, hX, hM, hW⟩ := hI
  refine lv_aload_n C.1 C.2.1 dL_law_763 rfl (lv_at hl 1 rfl) ?_
  refine lv_aload_n C.1 C.2.1 dL_law_764 rfl (lv_at hl 0 rfl) ?_
  refine lv_iload_n C.1 C.2.1 dL_law_765 rfl (lv_at hl 3 rfl) ?_
  refine lv_iconst (v := iI 1) C.1 C.2.1 dL_law_766 rfl ?_
  refine z_iadd C dL_law_767 ?_
  refine z_sld C hS9 hbl hbA hW hL (by omega) dL_law_768 ?_
  refine x_count l G C hK hA _ (sv_rg _ _) hO hX hW ⟨hl.1, trivial⟩ dL_law_769 (fun z  wx H locs hX hans hW => ?_)
  refine lv_aload_n C.1 C.2.1 dL_law_772 rfl (lv_at hl 2 rfl) ?_
  refine lv_aload_n C.1 C.2.1 dL_law_773 rfl (lv_at hl 0 rfl) ?_
  refine lv_iload_n C.1 C.2.1 dL_law_774 rfl (lv_at hl 3 rfl) ?_
  refine lv_iconst (v := iI 1) C.1 C.2.1 dL_law_775 rfl ?_
  refine z_iadd C dL_law_776 ?_
  refine z_sld C hS9 hbl hbA hW hL (by omega) dL_law_777 ?_
  refine y_count l G C hK hA _ (sv_rg _ _) hO hM hW ⟨hl.1, trivial⟩ dL_law_778 z hans (fun wm H locs hM hW => ?_)
  refine lv_icmp_eq (tgt := 786) C.1 C.2.1 dL_law_781 (by decide) (fun _ => ?_) (fun c8 => absurd rfl c8)
  exact kk _ _ ⟨_, _, _, _, _, _, _, _, _, _, _, hO, hX, hM, hW⟩
