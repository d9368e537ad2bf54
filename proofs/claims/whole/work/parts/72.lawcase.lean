set_option maxHeartbeats 4000000 in
set_option maxRecDepth 100000 in
theorem k_run {p9 : Program} {e9 : Env} {s9 : State} {m9 : MethodId} {b : Nat} {below : List Frame} {meth : Method} {c9 : Code} {A : Nat → Prop} {Q : State → Prop} {H : Heap} {locs : List Loc} {ls : Array Slot} (l : Launch) (G : GG) (C : CallFix p9 m9 c9 code 4 s9 #[Value.ref b] wsL_law RL) (hK : KG G A s9 s9.heap) (hA : ∀ q, s9.heap.size ≤ q → A q) {L : Nat} {xs : Nat → Int32} (hS9 : va_X b L xs s9 s9.heap) (hbl : b < s9.heap.size) (hbA : ¬ A b) (hL : L ≤ 2048) {x y : Nat} {i : Int} (hi : 0 ≤ i ∧ i + 4 ≤ L) (hI : LI G A s9 x y H locs) (hl : lv_has ls 4 [(0, .ref b), (1, .ref x), (2, .ref y), (3, .int (iI i))]) (kk : ∀ (H : Heap) (locs : List Loc), LI G A s9 x y H locs → W p9 l e9 room_1 s9 m9 #[Value.ref b] below meth c9 H locs 600000 7302250 Q (F0 m9 786 ls [])) : W p9 l e9 room_1 s9 m9 #[Value.ref b] below meth c9 H locs 600000 7302250 Q (F0 m9 384 ls []) := by
  obtain ⟨t, T, S, n, B, nn, nf, fn, ff, wx, wm, hO, hX, hM, hW⟩ := hI
  refine lv_aload_n C.1 C.2.1 dL_law_384 rfl (lv_at hl 1 rfl) ?_
  refine lv_aload_n C.1 C.2.1 dL_law_385 rfl (lv_at hl 0 rfl) ?_
  refine lv_iload_n C.1 C.2.1 dL_law_386 rfl (lv_at hl 3 rfl) ?_
  refine lv_iconst (v := iI 1) C.1 C.2.1 dL_law_387 rfl ?_
  refine z_iadd C dL_law_388 ?_
  refine z_sld C hS9 hbl hbA hW hL (by omega) dL_law_389 ?_
  refine lv_aload_n C.1 C.2.1 dL_law_390 rfl (lv_at hl 0 rfl) ?_
  refine lv_iload_n C.1 C.2.1 dL_law_391 rfl (lv_at hl 3 rfl) ?_
  refine lv_iconst (v := iI 2) C.1 C.2.1 dL_law_392 rfl ?_
  refine z_iadd C dL_law_393 ?_
  refine z_sld C hS9 hbl hbA hW hL (by omega) dL_law_394 ?_
  refine lv_aload_n C.1 C.2.1 dL_law_395 rfl (lv_at hl 0 rfl) ?_
  refine lv_iload_n C.1 C.2.1 dL_law_396 rfl (lv_at hl 3 rfl) ?_
  refine lv_iconst (v := iI 3) C.1 C.2.1 dL_law_397 rfl ?_
  refine z_iadd C dL_law_398 ?_
  refine z_sld C hS9 hbl hbA hW hL (by omega) dL_law_399 ?_
  refine x_run l G C hK hA _ _ _ (sv_rg _ _) (sv_rg _ _) (sv_rg _ _) hO hX hW ⟨hl.1, trivial⟩ dL_law_400 (fun z  wx H locs hX hans hW => ?_)
  refine lv_aload_n C.1 C.2.1 dL_law_403 rfl (lv_at hl 2 rfl) ?_
  refine lv_aload_n C.1 C.2.1 dL_law_404 rfl (lv_at hl 0 rfl) ?_
  refine lv_iload_n C.1 C.2.1 dL_law_405 rfl (lv_at hl 3 rfl) ?_
  refine lv_iconst (v := iI 1) C.1 C.2.1 dL_law_406 rfl ?_
  refine z_iadd C dL_law_407 ?_
  refine z_sld C hS9 hbl hbA hW hL (by omega) dL_law_408 ?_
  refine lv_aload_n C.1 C.2.1 dL_law_409 rfl (lv_at hl 0 rfl) ?_
  refine lv_iload_n C.1 C.2.1 dL_law_410 rfl (lv_at hl 3 rfl) ?_
  refine lv_iconst (v := iI 2) C.1 C.2.1 dL_law_411 rfl ?_
  refine z_iadd C dL_law_412 ?_
  refine z_sld C hS9 hbl hbA hW hL (by omega) dL_law_413 ?_
  refine lv_aload_n C.1 C.2.1 dL_law_414 rfl (lv_at hl 0 rfl) ?_
  refine lv_iload_n C.1 C.2.1 dL_law_415 rfl (lv_at hl 3 rfl) ?_
  refine lv_iconst (v := iI 3) C.1 C.2.1 dL_law_416 rfl ?_
  refine z_iadd C dL_law_417 ?_
  refine z_sld C hS9 hbl hbA hW hL (by omega) dL_law_418 ?_
  refine y_run l G C hK hA _ _ _ (sv_rg _ _) (sv_rg _ _) (sv_rg _ _) hO hM hW ⟨hl.1, trivial⟩ dL_law_419 z hans (fun wm H locs hM hW => ?_)
  refine lv_icmp_eq (tgt := 786) C.1 C.2.1 dL_law_422 (by decide) (fun _ => ?_) (fun c8 => absurd rfl c8)
  exact kk _ _ ⟨_, _, _, _, _, _, _, _, _, _, _, hO, hX, hM, hW⟩
set_option maxHeartbeats 4000000 in
set_option maxRecDepth 100000 in
theorem k_most {p9 : Program} {e9 : Env} {s9 : State} {m9 : MethodId} {b : Nat} {below : List Frame} {meth : Method} {c9 : Code} {A : Nat → Prop} {Q : State → Prop} {H : Heap} {locs : List Loc} {ls : Array Slot} (l : Launch) (G : GG) (C : CallFix p9 m9 c9 code 4 s9 #[Value.ref b] wsL_law RL) (hK : KG G A s9 s9.heap) (hA : ∀ q, s9.heap.size ≤ q → A q) {L : Nat} {xs : Nat → Int32} (hS9 : va_X b L xs s9 s9.heap) (hbl : b < s9.heap.size) (hbA : ¬ A b) (hL : L ≤ 2048) {x y : Nat} {i : Int} (hi : 0 ≤ i ∧ i + 4 ≤ L) (hI : LI G A s9 x y H locs) (hl : lv_has ls 4 [(0, .ref b), (1, .ref x), (2, .ref y), (3, .int (iI i))]) (kk : ∀ (H : Heap) (locs : List Loc), LI G A s9 x y H locs → W p9 l e9 room_1 s9 m9 #[Value.ref b] below meth c9 H locs 600000 7302250 Q (F0 m9 786 ls [])) : W p9 l e9 room_1 s9 m9 #[Value.ref b] below meth c9 H locs 600000 7302250 Q (F0 m9 427 ls []) := by
  obtain ⟨t, T, S, n, B, nn, nf, fn, ff, wx, wm, hO, hX, hM, hW⟩ := hI
  refine lv_aload_n C.1 C.2.1 dL_law_427 rfl (lv_at hl 1 rfl) ?_
  refine lv_aload_n C.1 C.2.1 dL_law_428 rfl (lv_at hl 0 rfl) ?_
  refine lv_iload_n C.1 C.2.1 dL_law_429 rfl (lv_at hl 3 rfl) ?_
  refine lv_iconst (v := iI 1) C.1 C.2.1 dL_law_430 rfl ?_
  refine z_iadd C dL_law_431 ?_
  refine z_sld C hS9 hbl hbA hW hL (by omega) dL_law_432 ?_
  refine lv_aload_n C.1 C.2.1 dL_law_433 rfl (lv_at hl 0 rfl) ?_
  refine lv_iload_n C.1 C.2.1 dL_law_434 rfl (lv_at hl 3 rfl) ?_
  refine lv_iconst (v := iI 2) C.1 C.2.1 dL_law_435 rfl ?_
  refine z_iadd C dL_law_436 ?_
  refine z_sld C hS9 hbl hbA hW hL (by omega) dL_law_437 ?_
  refine lv_aload_n C.1 C.2.1 dL_law_438 rfl (lv_at hl 0 rfl) ?_
  refine lv_iload_n C.1 C.2.1 dL_law_439 rfl (lv_at hl 3 rfl) ?_
  refine lv_iconst (v := iI 3) C.1 C.2.1 dL_law_440 rfl ?_
  refine z_iadd C dL_law_441 ?_
  refine z_sld C hS9 hbl hbA hW hL (by omega) dL_law_442 ?_
  refine x_most l G C hK hA _ _ _ (sv_rg _ _) (sv_rg _ _) (sv_rg _ _) hO hX hW ⟨hl.1, trivial⟩ dL_law_443 (fun z  wx H locs hX hans hW => ?_)
  refine lv_aload_n C.1 C.2.1 dL_law_446 rfl (lv_at hl 2 rfl) ?_
  refine lv_aload_n C.1 C.2.1 dL_law_447 rfl (lv_at hl 0 rfl) ?_
  refine lv_iload_n C.1 C.2.1 dL_law_448 rfl (lv_at hl 3 rfl) ?_
  refine lv_iconst (v := iI 1) C.1 C.2.1 dL_law_449 rfl ?_
  refine z_iadd C dL_law_450 ?_
  refine z_sld C hS9 hbl hbA hW hL (by omega) dL_law_451 ?_
  refine lv_aload_n C.1 C.2.1 dL_law_452 rfl (lv_at hl 0 rfl) ?_
  refine lv_iload_n C.1 C.2.1 dL_law_453 rfl (lv_at hl 3 rfl) ?_
  refine lv_iconst (v := iI 2) C.1 C.2.1 dL_law_454 rfl ?_
  refine z_iadd C dL_law_455 ?_
  refine z_sld C hS9 hbl hbA hW hL (by omega) dL_law_456 ?_
  refine lv_aload_n C.1 C.2.1 dL_law_457 rfl (lv_at hl 0 rfl) ?_
  refine lv_iload_n C.1 C.2.1 dL_law_458 rfl (lv_at hl 3 rfl) ?_
  refine lv_iconst (v := iI 3) C.1 C.2.1 dL_law_459 rfl ?_
  refine z_iadd C dL_law_460 ?_
  refine z_sld C hS9 hbl hbA hW hL (by omega) dL_law_461 ?_
  refine y_most l G C hK hA _ _ _ (sv_rg _ _) (sv_rg _ _) (sv_rg _ _) hO hM hW ⟨hl.1, trivial⟩ dL_law_462 z hans (fun wm H locs hM hW => ?_)
  refine lv_icmp_eq (tgt := 786) C.1 C.2.1 dL_law_465 (by decide) (fun _ => ?_) (fun c8 => absurd rfl c8)
  exact kk _ _ ⟨_, _, _, _, _, _, _, _, _, _, _, hO, hX, hM, hW⟩
set_option maxHeartbeats 4000000 in
set_option maxRecDepth 100000 in
theorem k_around {p9 : Program} {e9 : Env} {s9 : State} {m9 : MethodId} {b : Nat} {below : List Frame} {meth : Method} {c9 : Code} {A : Nat → Prop} {Q : State → Prop} {H : Heap} {locs : List Loc} {ls : Array Slot} (l : Launch) (G : GG) (C : CallFix p9 m9 c9 code 4 s9 #[Value.ref b] wsL_law RL) (hK : KG G A s9 s9.heap) (hA : ∀ q, s9.heap.size ≤ q → A q) {L : Nat} {xs : Nat → Int32} (hS9 : va_X b L xs s9 s9.heap) (hbl : b < s9.heap.size) (hbA : ¬ A b) (hL : L ≤ 2048) {x y : Nat} {i : Int} (hi : 0 ≤ i ∧ i + 4 ≤ L) (hI : LI G A s9 x y H locs) (hl : lv_has ls 4 [(0, .ref b), (1, .ref x), (2, .ref y), (3, .int (iI i))]) (kk : ∀ (H : Heap) (locs : List Loc), LI G A s9 x y H locs → W p9 l e9 room_1 s9 m9 #[Value.ref b] below meth c9 H locs 600000 7302250 Q (F0 m9 786 ls [])) : W p9 l e9 room_1 s9 m9 #[Value.ref b] below meth c9 H locs 600000 7302250 Q (F0 m9 470 ls []) := by
  obtain ⟨t, T, S, n, B, nn, nf, fn, ff, wx, wm, hO, hX, hM, hW⟩ := hI
  refine lv_aload_n C.1 C.2.1 dL_law_470 rfl (lv_at hl 1 rfl) ?_
  refine lv_aload_n C.1 C.2.1 dL_law_471 rfl (lv_at hl 0 rfl) ?_
  refine lv_iload_n C.1 C.2.1 dL_law_472 rfl (lv_at hl 3 rfl) ?_
  refine lv_iconst (v := iI 1) C.1 C.2.1 dL_law_473 rfl ?_
  refine z_iadd C dL_law_474 ?_
  refine z_sld C hS9 hbl hbA hW hL (by omega) dL_law_475 ?_
  refine lv_aload_n C.1 C.2.1 dL_law_476 rfl (lv_at hl 0 rfl) ?_
  refine lv_iload_n C.1 C.2.1 dL_law_477 rfl (lv_at hl 3 rfl) ?_
  refine lv_iconst (v := iI 2) C.1 C.2.1 dL_law_478 rfl ?_
  refine z_iadd C dL_law_479 ?_
  refine z_sld C hS9 hbl hbA hW hL (by omega) dL_law_480 ?_
  refine x_around l G C hK hA _ _ (sv_rg _ _) (sv_rg _ _) hO hX hW ⟨hl.1, trivial⟩ dL_law_481 (fun z  wx H locs hX hans hW => ?_)
  refine lv_aload_n C.1 C.2.1 dL_law_484 rfl (lv_at hl 2 rfl) ?_
  refine lv_aload_n C.1 C.2.1 dL_law_485 rfl (lv_at hl 0 rfl) ?_
  refine lv_iload_n C.1 C.2.1 dL_law_486 rfl (lv_at hl 3 rfl) ?_
  refine lv_iconst (v := iI 1) C.1 C.2.1 dL_law_487 rfl ?_
  refine z_iadd C dL_law_488 ?_
  refine z_sld C hS9 hbl hbA hW hL (by omega) dL_law_489 ?_
  refine lv_aload_n C.1 C.2.1 dL_law_490 rfl (lv_at hl 0 rfl) ?_
  refine lv_iload_n C.1 C.2.1 dL_law_491 rfl (lv_at hl 3 rfl) ?_
  refine lv_iconst (v := iI 2) C.1 C.2.1 dL_law_492 rfl ?_
  refine z_iadd C dL_law_493 ?_
  refine z_sld C hS9 hbl hbA hW hL (by omega) dL_law_494 ?_
  refine y_around l G C hK hA _ _ (sv_rg _ _) (sv_rg _ _) hO hM hW ⟨hl.1, trivial⟩ dL_law_495 z hans (fun wm H locs hM hW => ?_)
  refine lv_icmp_eq (tgt := 786) C.1 C.2.1 dL_law_498 (by decide) (fun _ => ?_) (fun c8 => absurd rfl c8)
  exact kk _ _ ⟨_, _, _, _, _, _, _, _, _, _, _, hO, hX, hM, hW⟩
set_option maxHeartbeats 4000000 in
set_option maxRecDepth 100000 in
theorem k_number {p9 : Program} {e9 : Env} {s9 : State} {m9 : MethodId} {b : Nat} {below : List Frame} {meth : Method} {c9 : Code} {A : Nat → Prop} {Q : State → Prop} {H : Heap} {locs : List Loc} {ls : Array Slot} (l : Launch) (G : GG) (C : CallFix p9 m9 c9 code 4 s9 #[Value.ref b] wsL_law RL) (hK : KG G A s9 s9.heap) (hA : ∀ q, s9.heap.size ≤ q → A q) {L : Nat} {xs : Nat → Int32} (hS9 : va_X b L xs s9 s9.heap) (hbl : b < s9.heap.size) (hbA : ¬ A b) (hL : L ≤ 2048) {x y : Nat} {i : Int} (hi : 0 ≤ i ∧ i + 4 ≤ L) (hI : LI G A s9 x y H locs) (hl : lv_has ls 4 [(0, .ref b), (1, .ref x), (2, .ref y), (3, .int (iI i))]) (kk : ∀ (H : Heap) (locs : List Loc), LI G A s9 x y H locs → W p9 l e9 room_1 s9 m9 #[Value.ref b] below meth c9 H locs 600000 7302250 Q (F0 m9 786 ls [])) : W p9 l e9 room_1 s9 m9 #[Value.ref b] below meth c9 H locs 600000 7302250 Q (F0 m9 503 ls []) := by
  obtain ⟨t, T, S, n, B, nn, nf, fn, ff, wx, wm, hO, hX, hM, hW⟩ := hI
  refine lv_aload_n C.1 C.2.1 dL_law_503 rfl (lv_at hl 1 rfl) ?_
  refine lv_aload_n C.1 C.2.1 dL_law_504 rfl (lv_at hl 0 rfl) ?_
  refine lv_iload_n C.1 C.2.1 dL_law_505 rfl (lv_at hl 3 rfl) ?_
  refine lv_iconst (v := iI 1) C.1 C.2.1 dL_law_506 rfl ?_
  refine z_iadd C dL_law_507 ?_
  refine z_sld C hS9 hbl hbA hW hL (by omega) dL_law_508 ?_
  refine x_number l G C hK hA _ (sv_rg _ _) hO hX hW ⟨hl.1, trivial⟩ dL_law_509 (fun z nn2 nf2 wx H locs hO2 hX hans hW => ?_)
  refine lv_aload_n C.1 C.2.1 dL_law_512 rfl (lv_at hl 2 rfl) ?_
  refine lv_aload_n C.1 C.2.1 dL_law_513 rfl (lv_at hl 0 rfl) ?_
  refine lv_iload_n C.1 C.2.1 dL_law_514 rfl (lv_at hl 3 rfl) ?_
  refine lv_iconst (v := iI 1) C.1 C.2.1 dL_law_515 rfl ?_
  refine z_iadd C dL_law_516 ?_
  refine z_sld C hS9 hbl hbA hW hL (by omega) dL_law_517 ?_
  refine y_number l G C hK hA _ (sv_rg _ _) hO hM hW ⟨hl.1, trivial⟩ dL_law_518 z hans (fun wm H locs hM hW => ?_)
  refine lv_icmp_eq (tgt := 786) C.1 C.2.1 dL_law_521 (by decide) (fun _ => ?_) (fun c8 => absurd rfl c8)
  exact kk _ _ ⟨_, _, _, _, _, _, _, _, _, _, _, hO2, hX, hM, hW⟩
set_option maxHeartbeats 4000000 in
set_option maxRecDepth 100000 in
theorem k_noNumbers {p9 : Program} {e9 : Env} {s9 : State} {m9 : MethodId} {b : Nat} {below : List Frame} {meth : Method} {c9 : Code} {A : Nat → Prop} {Q : State → Prop} {H : Heap} {locs : List Loc} {ls : Array Slot} (l : Launch) (G : GG) (C : CallFix p9 m9 c9 code 4 s9 #[Value.ref b] wsL_law RL) (hK : KG G A s9 s9.heap) (hA : ∀ q, s9.heap.size ≤ q → A q) {L : Nat} {xs : Nat → Int32} (hS9 : va_X b L xs s9 s9.heap) (hbl : b < s9.heap.size) (hbA : ¬ A b) (hL : L ≤ 2048) {x y : Nat} {i : Int} (hi : 0 ≤ i ∧ i + 4 ≤ L) (hI : LI G A s9 x y H locs) (hl : lv_has ls 4 [(0, .ref b), (1, .ref x), (2, .ref y), (3, .int (iI i))]) (kk : ∀ (H : Heap) (locs : List Loc), LI G A s9 x y H locs → W p9 l e9 room_1 s9 m9 #[Value.ref b] below meth c9 H locs 600000 7302250 Q (F0 m9 786 ls [])) : W p9 l e9 room_1 s9 m9 #[Value.ref b] below meth c9 H locs 600000 7302250 Q (F0 m9 526 ls []) := by
  obtain ⟨t, T, S, n, B, nn, nf, fn, ff, wx, wm, hO, hX, hM, hW⟩ := hI
  refine lv_aload_n C.1 C.2.1 dL_law_526 rfl (lv_at hl 1 rfl) ?_
  refine x_noNumbers l G C hK hA   hO hX hW ⟨hl.1, trivial⟩ dL_law_527 (fun z nn2 wx H locs hO2 hX hans hW => ?_)
  refine lv_aload_n C.1 C.2.1 dL_law_530 rfl (lv_at hl 2 rfl) ?_
  refine y_noNumbers l G C hK hA   hO hM hW ⟨hl.1, trivial⟩ dL_law_531 z hans (fun wm H locs hM hW => ?_)
  refine lv_icmp_eq (tgt := 786) C.1 C.2.1 dL_law_534 (by decide) (fun _ => ?_) (fun c8 => absurd rfl c8)
  exact kk _ _ ⟨_, _, _, _, _, _, _, _, _, _, _, hO2, hX, hM, hW⟩
set_option maxHeartbeats 4000000 in
set_option maxRecDepth 100000 in
theorem k_breaks {p9 : Program} {e9 : Env} {s9 : State} {m9 : MethodId} {b : Nat} {below : List Frame} {meth : Method} {c9 : Code} {A : Nat → Prop} {Q : State → Prop} {H : Heap} {locs : List Loc} {ls : Array Slot} (l : Launch) (G : GG) (C : CallFix p9 m9 c9 code 4 s9 #[Value.ref b] wsL_law RL) (hK : KG G A s9 s9.heap) (hA : ∀ q, s9.heap.size ≤ q → A q) {L : Nat} {xs : Nat → Int32} (hS9 : va_X b L xs s9 s9.heap) (hbl : b < s9.heap.size) (hbA : ¬ A b) (hL : L ≤ 2048) {x y : Nat} {i : Int} (hi : 0 ≤ i ∧ i + 4 ≤ L) (hI : LI G A s9 x y H locs) (hl : lv_has ls 4 [(0, .ref b), (1, .ref x), (2, .ref y), (3, .int (iI i))]) (kk : ∀ (H : Heap) (locs : List Loc), LI G A s9 x y H locs → W p9 l e9 room_1 s9 m9 #[Value.ref b] below meth c9 H locs 600000 7302250 Q (F0 m9 786 ls [])) : W p9 l e9 room_1 s9 m9 #[Value.ref b] below meth c9 H locs 600000 7302250 Q (F0 m9 539 ls []) := by
  obtain ⟨t, T, S, n, B, nn, nf, fn, ff, wx, wm, hO, hX, hM, hW⟩ := hI
  refine lv_aload_n C.1 C.2.1 dL_law_539 rfl (lv_at hl 1 rfl) ?_
  refine lv_aload_n C.1 C.2.1 dL_law_540 rfl (lv_at hl 0 rfl) ?_
  refine lv_iload_n C.1 C.2.1 dL_law_541 rfl (lv_at hl 3 rfl) ?_
  refine lv_iconst (v := iI 1) C.1 C.2.1 dL_law_542 rfl ?_
  refine z_iadd C dL_law_543 ?_
  refine z_sld C hS9 hbl hbA hW hL (by omega) dL_law_544 ?_
  refine x_breaks l G C hK hA _ (sv_rg _ _) hO hX hW ⟨hl.1, trivial⟩ dL_law_545 (fun z  wx H locs hX hans hW => ?_)
  refine lv_aload_n C.1 C.2.1 dL_law_548 rfl (lv_at hl 2 rfl) ?_
  refine lv_aload_n C.1 C.2.1 dL_law_549 rfl (lv_at hl 0 rfl) ?_
  refine lv_iload_n C.1 C.2.1 dL_law_550 rfl (lv_at hl 3 rfl) ?_
  refine lv_iconst (v := iI 1) C.1 C.2.1 dL_law_551 rfl ?_
  refine z_iadd C dL_law_552 ?_
  refine z_sld C hS9 hbl hbA hW hL (by omega) dL_law_553 ?_
  refine y_breaks l G C hK hA _ (sv_rg _ _) hO hM hW ⟨hl.1, trivial⟩ dL_law_554 z hans (fun wm H locs hM hW => ?_)
  refine lv_icmp_eq (tgt := 786) C.1 C.2.1 dL_law_557 (by decide) (fun _ => ?_) (fun c8 => absurd rfl c8)
  exact kk _ _ ⟨_, _, _, _, _, _, _, _, _, _, _, hO, hX, hM, hW⟩
set_option maxHeartbeats 4000000 in
set_option maxRecDepth 100000 in
theorem k_may {p9 : Program} {e9 : Env} {s9 : State} {m9 : MethodId} {b : Nat} {below : List Frame} {meth : Method} {c9 : Code} {A : Nat → Prop} {Q : State → Prop} {H : Heap} {locs : List Loc} {ls : Array Slot} (l : Launch) (G : GG) (C : CallFix p9 m9 c9 code 4 s9 #[Value.ref b] wsL_law RL) (hK : KG G A s9 s9.heap) (hA : ∀ q, s9.heap.size ≤ q → A q) {L : Nat} {xs : Nat → Int32} (hS9 : va_X b L xs s9 s9.heap) (hbl : b < s9.heap.size) (hbA : ¬ A b) (hL : L ≤ 2048) {x y : Nat} {i : Int} (hi : 0 ≤ i ∧ i + 4 ≤ L) (hI : LI G A s9 x y H locs) (hl : lv_has ls 4 [(0, .ref b), (1, .ref x), (2, .ref y), (3, .int (iI i))]) (kk : ∀ (H : Heap) (locs : List Loc), LI G A s9 x y H locs → W p9 l e9 room_1 s9 m9 #[Value.ref b] below meth c9 H locs 600000 7302250 Q (F0 m9 786 ls [])) : W p9 l e9 room_1 s9 m9 #[Value.ref b] below meth c9 H locs 600000 7302250 Q (F0 m9 562 ls []) := by
  obtain ⟨t, T, S, n, B, nn, nf, fn, ff, wx, wm, hO, hX, hM, hW⟩ := hI
  refine lv_aload_n C.1 C.2.1 dL_law_562 rfl (lv_at hl 1 rfl) ?_
  refine x_may l G C hK hA   hO hX hW ⟨hl.1, trivial⟩ dL_law_563 (fun z  wx H locs hX hans hW => ?_)
  refine lv_aload_n C.1 C.2.1 dL_law_566 rfl (lv_at hl 2 rfl) ?_
  refine y_may l G C hK hA   hO hM hW ⟨hl.1, trivial⟩ dL_law_567 z hans (fun wm H locs hM hW => ?_)
  refine lv_icmp_eq (tgt := 786) C.1 C.2.1 dL_law_570 (by decide) (fun _ => ?_) (fun c8 => absurd rfl c8)
  exact kk _ _ ⟨_, _, _, _, _, _, _, _, _, _, _, hO, hX, hM, hW⟩
set_option maxHeartbeats 4000000 in
set_option maxRecDepth 100000 in
theorem k_figure {p9 : Program} {e9 : Env} {s9 : State} {m9 : MethodId} {b : Nat} {below : List Frame} {meth : Method} {c9 : Code} {A : Nat → Prop} {Q : State → Prop} {H : Heap} {locs : List Loc} {ls : Array Slot} (l : Launch) (G : GG) (C : CallFix p9 m9 c9 code 4 s9 #[Value.ref b] wsL_law RL) (hK : KG G A s9 s9.heap) (hA : ∀ q, s9.heap.size ≤ q → A q) {L : Nat} {xs : Nat → Int32} (hS9 : va_X b L xs s9 s9.heap) (hbl : b < s9.heap.size) (hbA : ¬ A b) (hL : L ≤ 2048) {x y : Nat} {i : Int} (hi : 0 ≤ i ∧ i + 4 ≤ L) (hI : LI G A s9 x y H locs) (hl : lv_has ls 4 [(0, .ref b), (1, .ref x), (2, .ref y), (3, .int (iI i))]) (kk : ∀ (H : Heap) (locs : List Loc), LI G A s9 x y H locs → W p9 l e9 room_1 s9 m9 #[Value.ref b] below meth c9 H locs 600000 7302250 Q (F0 m9 786 ls [])) : W p9 l e9 room_1 s9 m9 #[Value.ref b] below meth c9 H locs 600000 7302250 Q (F0 m9 575 ls []) := by
  obtain ⟨t, T, S, n, B, nn, nf, fn, ff, wx, wm, hO, hX, hM, hW⟩ := hI
  refine lv_aload_n C.1 C.2.1 dL_law_575 rfl (lv_at hl 1 rfl) ?_
  refine lv_aload_n C.1 C.2.1 dL_law_576 rfl (lv_at hl 0 rfl) ?_
  refine lv_iload_n C.1 C.2.1 dL_law_577 rfl (lv_at hl 3 rfl) ?_
  refine lv_iconst (v := iI 1) C.1 C.2.1 dL_law_578 rfl ?_
  refine z_iadd C dL_law_579 ?_
  refine z_sld C hS9 hbl hbA hW hL (by omega) dL_law_580 ?_
  refine x_figure l G C hK hA _ (sv_rg _ _) hO hX hW ⟨hl.1, trivial⟩ dL_law_581 (fun z fn2 ff2 wx H locs hO2 hX hans hW => ?_)
  refine lv_aload_n C.1 C.2.1 dL_law_584 rfl (lv_at hl 2 rfl) ?_
  refine lv_aload_n C.1 C.2.1 dL_law_585 rfl (lv_at hl 0 rfl) ?_
  refine lv_iload_n C.1 C.2.1 dL_law_586 rfl (lv_at hl 3 rfl) ?_
  refine lv_iconst (v := iI 1) C.1 C.2.1 dL_law_587 rfl ?_
  refine z_iadd C dL_law_588 ?_
  refine z_sld C hS9 hbl hbA hW hL (by omega) dL_law_589 ?_
  refine y_figure l G C hK hA _ (sv_rg _ _) hO hM hW ⟨hl.1, trivial⟩ dL_law_590 z hans (fun wm H locs hM hW => ?_)
  refine lv_icmp_eq (tgt := 786) C.1 C.2.1 dL_law_593 (by decide) (fun _ => ?_) (fun c8 => absurd rfl c8)
  exact kk _ _ ⟨_, _, _, _, _, _, _, _, _, _, _, hO2, hX, hM, hW⟩
