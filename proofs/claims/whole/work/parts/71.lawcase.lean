set_option maxHeartbeats 4000000 in
set_option maxRecDepth 100000 in
theorem k_write {p9 : Program} {e9 : Env} {s9 : State} {m9 : MethodId} {b : Nat} {below : List Frame} {meth : Method} {c9 : Code} {A : Nat → Prop} {Q : State → Prop} {H : Heap} {locs : List Loc} {ls : Array Slot} (l : Launch) (G : GG) (C : CallFix p9 m9 c9 code 4 s9 #[Value.ref b] wsL_law RL) (hK : KG G A s9 s9.heap) (hA : ∀ q, s9.heap.size ≤ q → A q) {L : Nat} {xs : Nat → Int32} (hS9 : va_X b L xs s9 s9.heap) (hbl : b < s9.heap.size) (hbA : ¬ A b) (hL : L ≤ 2048) {x y : Nat} {i : Int} (hi : 0 ≤ i ∧ i + 4 ≤ L) (hI : LI G A s9 x y H locs) (hl : lv_has ls 4 [(0, .ref b), (1, .ref x), (2, .ref y), (3, .int (iI i))]) (kk : ∀ (H : Heap) (locs : List Loc), LI G A s9 x y H locs → W p9 l e9 room_1 s9 m9 #[Value.ref b] below meth c9 H locs 600000 7302250 Q (F0 m9 786 ls [])) : W p9 l e9 room_1 s9 m9 #[Value.ref b] below meth c9 H locs 600000 7302250 Q (F0 m9 140 ls []) := by
  obtain ⟨t, T, S, n, B, nn, nf, fn, ff, wx, wm, hO, hX, hM, hW⟩ := hI
  refine lv_aload_n C.1 C.2.1 dL_law_140 rfl (lv_at hl 1 rfl) ?_
  refine lv_aload_n C.1 C.2.1 dL_law_141 rfl (lv_at hl 0 rfl) ?_
  refine lv_iload_n C.1 C.2.1 dL_law_142 rfl (lv_at hl 3 rfl) ?_
  refine lv_iconst (v := iI 1) C.1 C.2.1 dL_law_143 rfl ?_
  refine z_iadd C dL_law_144 ?_
  refine z_sld C hS9 hbl hbA hW hL (by omega) dL_law_145 ?_
  refine lv_aload_n C.1 C.2.1 dL_law_146 rfl (lv_at hl 0 rfl) ?_
  refine lv_iload_n C.1 C.2.1 dL_law_147 rfl (lv_at hl 3 rfl) ?_
  refine lv_iconst (v := iI 2) C.1 C.2.1 dL_law_148 rfl ?_
  refine z_iadd C dL_law_149 ?_
  refine z_sld C hS9 hbl hbA hW hL (by omega) dL_law_150 ?_
  refine lv_i2l C.1 C.2.1 dL_law_151 rfl ?_
  refine lv_bipush (v := iI 32) C.1 C.2.1 dL_law_152 rfl ?_
  refine lv_lshl C.1 C.2.1 dL_law_154 rfl ?_
  refine lv_aload_n C.1 C.2.1 dL_law_155 rfl (lv_at hl 0 rfl) ?_
  refine lv_iload_n C.1 C.2.1 dL_law_156 rfl (lv_at hl 3 rfl) ?_
  refine lv_iconst (v := iI 3) C.1 C.2.1 dL_law_157 rfl ?_
  refine z_iadd C dL_law_158 ?_
  refine z_sld C hS9 hbl hbA hW hL (by omega) dL_law_159 ?_
  refine lv_i2l C.1 C.2.1 dL_law_160 rfl ?_
  refine lv_ldc2 C.1 C.2.1 (own := RL) C.2.2.2.1 (C.2.2.2.2 (.constantLong RL 13 (4294967295)) (List.mem_of_getElem? (i := 6) rfl)) dL_law_161 ?_
  refine lv_land C.1 C.2.1 dL_law_164 ?_
  refine lv_lor C.1 C.2.1 dL_law_165 ?_
  refine x_write l G C hK hA _ _ (sv_rg _ _) hO hX hW ⟨hl.1, trivial⟩ dL_law_166 (fun z t2 T2 wx H locs hO2 hX hans hW => ?_)
  refine lv_aload_n C.1 C.2.1 dL_law_169 rfl (lv_at hl 2 rfl) ?_
  refine lv_aload_n C.1 C.2.1 dL_law_170 rfl (lv_at hl 0 rfl) ?_
  refine lv_iload_n C.1 C.2.1 dL_law_171 rfl (lv_at hl 3 rfl) ?_
  refine lv_iconst (v := iI 1) C.1 C.2.1 dL_law_172 rfl ?_
  refine z_iadd C dL_law_173 ?_
  refine z_sld C hS9 hbl hbA hW hL (by omega) dL_law_174 ?_
  refine lv_aload_n C.1 C.2.1 dL_law_175 rfl (lv_at hl 0 rfl) ?_
  refine lv_iload_n C.1 C.2.1 dL_law_176 rfl (lv_at hl 3 rfl) ?_
  refine lv_iconst (v := iI 2) C.1 C.2.1 dL_law_177 rfl ?_
  refine z_iadd C dL_law_178 ?_
  refine z_sld C hS9 hbl hbA hW hL (by omega) dL_law_179 ?_
  refine lv_i2l C.1 C.2.1 dL_law_180 rfl ?_
  refine lv_bipush (v := iI 32) C.1 C.2.1 dL_law_181 rfl ?_
  refine lv_lshl C.1 C.2.1 dL_law_183 rfl ?_
  refine lv_aload_n C.1 C.2.1 dL_law_184 rfl (lv_at hl 0 rfl) ?_
  refine lv_iload_n C.1 C.2.1 dL_law_185 rfl (lv_at hl 3 rfl) ?_
  refine lv_iconst (v := iI 3) C.1 C.2.1 dL_law_186 rfl ?_
  refine z_iadd C dL_law_187 ?_
  refine z_sld C hS9 hbl hbA hW hL (by omega) dL_law_188 ?_
  refine lv_i2l C.1 C.2.1 dL_law_189 rfl ?_
  refine lv_ldc2 C.1 C.2.1 (own := RL) C.2.2.2.1 (C.2.2.2.2 (.constantLong RL 13 (4294967295)) (List.mem_of_getElem? (i := 6) rfl)) dL_law_190 ?_
  refine lv_land C.1 C.2.1 dL_law_193 ?_
  refine lv_lor C.1 C.2.1 dL_law_194 ?_
  refine y_write l G C hK hA _ _ (sv_rg _ _) hO hM hW ⟨hl.1, trivial⟩ dL_law_195 z hans (fun wm H locs hM hW => ?_)
  refine lv_icmp_eq (tgt := 786) C.1 C.2.1 dL_law_198 (by decide) (fun _ => ?_) (fun c8 => absurd rfl c8)
  exact kk _ _ ⟨_, _, _, _, _, _, _, _, _, _, _, hO2, hX, hM, hW⟩
set_option maxHeartbeats 4000000 in
set_option maxRecDepth 100000 in
theorem k_wipe {p9 : Program} {e9 : Env} {s9 : State} {m9 : MethodId} {b : Nat} {below : List Frame} {meth : Method} {c9 : Code} {A : Nat → Prop} {Q : State → Prop} {H : Heap} {locs : List Loc} {ls : Array Slot} (l : Launch) (G : GG) (C : CallFix p9 m9 c9 code 4 s9 #[Value.ref b] wsL_law RL) (hK : KG G A s9 s9.heap) (hA : ∀ q, s9.heap.size ≤ q → A q) {L : Nat} {xs : Nat → Int32} (hS9 : va_X b L xs s9 s9.heap) (hbl : b < s9.heap.size) (hbA : ¬ A b) (hL : L ≤ 2048) {x y : Nat} {i : Int} (hi : 0 ≤ i ∧ i + 4 ≤ L) (hI : LI G A s9 x y H locs) (hl : lv_has ls 4 [(0, .ref b), (1, .ref x), (2, .ref y), (3, .int (iI i))]) (kk : ∀ (H : Heap) (locs : List Loc), LI G A s9 x y H locs → W p9 l e9 room_1 s9 m9 #[Value.ref b] below meth c9 H locs 600000 7302250 Q (F0 m9 786 ls [])) : W p9 l e9 room_1 s9 m9 #[Value.ref b] below meth c9 H locs 600000 7302250 Q (F0 m9 203 ls []) := by
  obtain ⟨t, T, S, n, B, nn, nf, fn, ff, wx, wm, hO, hX, hM, hW⟩ := hI
  refine lv_aload_n C.1 C.2.1 dL_law_203 rfl (lv_at hl 1 rfl) ?_
  refine x_wipe l G C hK hA   hO hX hW ⟨hl.1, trivial⟩ dL_law_204 (fun z T2 wx H locs hO2 hX hans hW => ?_)
  refine lv_aload_n C.1 C.2.1 dL_law_207 rfl (lv_at hl 2 rfl) ?_
  refine y_wipe l G C hK hA   hO hM hW ⟨hl.1, trivial⟩ dL_law_208 z hans (fun wm H locs hM hW => ?_)
  refine lv_icmp_eq (tgt := 786) C.1 C.2.1 dL_law_211 (by decide) (fun _ => ?_) (fun c8 => absurd rfl c8)
  exact kk _ _ ⟨_, _, _, _, _, _, _, _, _, _, _, hO2, hX, hM, hW⟩
set_option maxHeartbeats 4000000 in
set_option maxRecDepth 100000 in
theorem k_fault {p9 : Program} {e9 : Env} {s9 : State} {m9 : MethodId} {b : Nat} {below : List Frame} {meth : Method} {c9 : Code} {A : Nat → Prop} {Q : State → Prop} {H : Heap} {locs : List Loc} {ls : Array Slot} (l : Launch) (G : GG) (C : CallFix p9 m9 c9 code 4 s9 #[Value.ref b] wsL_law RL) (hK : KG G A s9 s9.heap) (hA : ∀ q, s9.heap.size ≤ q → A q) {L : Nat} {xs : Nat → Int32} (hS9 : va_X b L xs s9 s9.heap) (hbl : b < s9.heap.size) (hbA : ¬ A b) (hL : L ≤ 2048) {x y : Nat} {i : Int} (hi : 0 ≤ i ∧ i + 4 ≤ L) (hI : LI G A s9 x y H locs) (hl : lv_has ls 4 [(0, .ref b), (1, .ref x), (2, .ref y), (3, .int (iI i))]) (kk : ∀ (H : Heap) (locs : List Loc), LI G A s9 x y H locs → W p9 l e9 room_1 s9 m9 #[Value.ref b] below meth c9 H locs 600000 7302250 Q (F0 m9 786 ls [])) : W p9 l e9 room_1 s9 m9 #[Value.ref b] below meth c9 H locs 600000 7302250 Q (F0 m9 216 ls []) := by
  obtain ⟨t, T, S, n, B, nn, nf, fn, ff, wx, wm, hO, hX, hM, hW⟩ := hI
  refine lv_aload_n C.1 C.2.1 dL_law_216 rfl (lv_at hl 1 rfl) ?_
  refine x_fault l G C hK hA   hO hX hW ⟨hl.1, trivial⟩ dL_law_217 (fun z  wx H locs hX hans hW => ?_)
  refine lv_aload_n C.1 C.2.1 dL_law_220 rfl (lv_at hl 2 rfl) ?_
  refine y_fault l G C hK hA   hO hM hW ⟨hl.1, trivial⟩ dL_law_221 z hans (fun wm H locs hM hW => ?_)
  refine lv_icmp_eq (tgt := 786) C.1 C.2.1 dL_law_224 (by decide) (fun _ => ?_) (fun c8 => absurd rfl c8)
  exact kk _ _ ⟨_, _, _, _, _, _, _, _, _, _, _, hO, hX, hM, hW⟩
set_option maxHeartbeats 4000000 in
set_option maxRecDepth 100000 in
theorem k_lay {p9 : Program} {e9 : Env} {s9 : State} {m9 : MethodId} {b : Nat} {below : List Frame} {meth : Method} {c9 : Code} {A : Nat → Prop} {Q : State → Prop} {H : Heap} {locs : List Loc} {ls : Array Slot} (l : Launch) (G : GG) (C : CallFix p9 m9 c9 code 4 s9 #[Value.ref b] wsL_law RL) (hK : KG G A s9 s9.heap) (hA : ∀ q, s9.heap.size ≤ q → A q) {L : Nat} {xs : Nat → Int32} (hS9 : va_X b L xs s9 s9.heap) (hbl : b < s9.heap.size) (hbA : ¬ A b) (hL : L ≤ 2048) {x y : Nat} {i : Int} (hi : 0 ≤ i ∧ i + 4 ≤ L) (hI : LI G A s9 x y H locs) (hl : lv_has ls 4 [(0, .ref b), (1, .ref x), (2, .ref y), (3, .int (iI i))]) (kk : ∀ (H : Heap) (locs : List Loc), LI G A s9 x y H locs → W p9 l e9 room_1 s9 m9 #[Value.ref b] below meth c9 H locs 600000 7302250 Q (F0 m9 786 ls [])) : W p9 l e9 room_1 s9 m9 #[Value.ref b] below meth c9 H locs 600000 7302250 Q (F0 m9 229 ls []) := by
  obtain ⟨t, T, S, n, B, nn, nf, fn, ff, wx, wm, hO, hX, hM, hW⟩ := hI
  refine lv_aload_n C.1 C.2.1 dL_law_229 rfl (lv_at hl 1 rfl) ?_
  refine x_lay l G C hK hA   hO hX hW ⟨hl.1, trivial⟩ dL_law_230 (fun z Sx nx Bx wx H locs hO2 hX hans hW => ?_)
  refine lv_aload_n C.1 C.2.1 dL_law_233 rfl (lv_at hl 2 rfl) ?_
  refine y_lay l G C hK hA   hO hM hW ⟨hl.1, trivial⟩ dL_law_234 z hans (fun wm H locs hM hW => ?_)
  refine lv_icmp_eq (tgt := 786) C.1 C.2.1 dL_law_237 (by decide) (fun _ => ?_) (fun c8 => absurd rfl c8)
  exact kk _ _ ⟨_, _, _, _, _, _, _, _, _, _, _, hO2, hX, hM, hW⟩
set_option maxHeartbeats 4000000 in
set_option maxRecDepth 100000 in
theorem k_told {p9 : Program} {e9 : Env} {s9 : State} {m9 : MethodId} {b : Nat} {below : List Frame} {meth : Method} {c9 : Code} {A : Nat → Prop} {Q : State → Prop} {H : Heap} {locs : List Loc} {ls : Array Slot} (l : Launch) (G : GG) (C : CallFix p9 m9 c9 code 4 s9 #[Value.ref b] wsL_law RL) (hK : KG G A s9 s9.heap) (hA : ∀ q, s9.heap.size ≤ q → A q) {L : Nat} {xs : Nat → Int32} (hS9 : va_X b L xs s9 s9.heap) (hbl : b < s9.heap.size) (hbA : ¬ A b) (hL : L ≤ 2048) {x y : Nat} {i : Int} (hi : 0 ≤ i ∧ i + 4 ≤ L) (hI : LI G A s9 x y H locs) (hl : lv_has ls 4 [(0, .ref b), (1, .ref x), (2, .ref y), (3, .int (iI i))]) (kk : ∀ (H : Heap) (locs : List Loc), LI G A s9 x y H locs → W p9 l e9 room_1 s9 m9 #[Value.ref b] below meth c9 H locs 600000 7302250 Q (F0 m9 786 ls [])) : W p9 l e9 room_1 s9 m9 #[Value.ref b] below meth c9 H locs 600000 7302250 Q (F0 m9 242 ls []) := by
  obtain ⟨t, T, S, n, B, nn, nf, fn, ff, wx, wm, hO, hX, hM, hW⟩ := hI
  refine lv_aload_n C.1 C.2.1 dL_law_242 rfl (lv_at hl 1 rfl) ?_
  refine lv_aload_n C.1 C.2.1 dL_law_243 rfl (lv_at hl 0 rfl) ?_
  refine lv_iload_n C.1 C.2.1 dL_law_244 rfl (lv_at hl 3 rfl) ?_
  refine lv_iconst (v := iI 1) C.1 C.2.1 dL_law_245 rfl ?_
  refine z_iadd C dL_law_246 ?_
  refine z_sld C hS9 hbl hbA hW hL (by omega) dL_law_247 ?_
  refine lv_aload_n C.1 C.2.1 dL_law_248 rfl (lv_at hl 0 rfl) ?_
  refine lv_iload_n C.1 C.2.1 dL_law_249 rfl (lv_at hl 3 rfl) ?_
  refine lv_iconst (v := iI 2) C.1 C.2.1 dL_law_250 rfl ?_
  refine z_iadd C dL_law_251 ?_
  refine z_sld C hS9 hbl hbA hW hL (by omega) dL_law_252 ?_
  refine x_told l G C hK hA _ _ (sv_rg _ _) (sv_rg _ _) hO hX hW ⟨hl.1, trivial⟩ dL_law_253 (fun z  wx H locs hX hans hW => ?_)
  refine lv_aload_n C.1 C.2.1 dL_law_256 rfl (lv_at hl 2 rfl) ?_
  refine lv_aload_n C.1 C.2.1 dL_law_257 rfl (lv_at hl 0 rfl) ?_
  refine lv_iload_n C.1 C.2.1 dL_law_258 rfl (lv_at hl 3 rfl) ?_
  refine lv_iconst (v := iI 1) C.1 C.2.1 dL_law_259 rfl ?_
  refine z_iadd C dL_law_260 ?_
  refine z_sld C hS9 hbl hbA hW hL (by omega) dL_law_261 ?_
  refine lv_aload_n C.1 C.2.1 dL_law_262 rfl (lv_at hl 0 rfl) ?_
  refine lv_iload_n C.1 C.2.1 dL_law_263 rfl (lv_at hl 3 rfl) ?_
  refine lv_iconst (v := iI 2) C.1 C.2.1 dL_law_264 rfl ?_
  refine z_iadd C dL_law_265 ?_
  refine z_sld C hS9 hbl hbA hW hL (by omega) dL_law_266 ?_
  refine y_told l G C hK hA _ _ (sv_rg _ _) (sv_rg _ _) hO hM hW ⟨hl.1, trivial⟩ dL_law_267 z hans (fun wm H locs hM hW => ?_)
  refine lv_icmp_eq (tgt := 786) C.1 C.2.1 dL_law_270 (by decide) (fun _ => ?_) (fun c8 => absurd rfl c8)
  exact kk _ _ ⟨_, _, _, _, _, _, _, _, _, _, _, hO, hX, hM, hW⟩
set_option maxHeartbeats 4000000 in
set_option maxRecDepth 100000 in
theorem k_at {p9 : Program} {e9 : Env} {s9 : State} {m9 : MethodId} {b : Nat} {below : List Frame} {meth : Method} {c9 : Code} {A : Nat → Prop} {Q : State → Prop} {H : Heap} {locs : List Loc} {ls : Array Slot} (l : Launch) (G : GG) (C : CallFix p9 m9 c9 code 4 s9 #[Value.ref b] wsL_law RL) (hK : KG G A s9 s9.heap) (hA : ∀ q, s9.heap.size ≤ q → A q) {L : Nat} {xs : Nat → Int32} (hS9 : va_X b L xs s9 s9.heap) (hbl : b < s9.heap.size) (hbA : ¬ A b) (hL : L ≤ 2048) {x y : Nat} {i : Int} (hi : 0 ≤ i ∧ i + 4 ≤ L) (hI : LI G A s9 x y H locs) (hl : lv_has ls 4 [(0, .ref b), (1, .ref x), (2, .ref y), (3, .int (iI i))]) (kk : ∀ (H : Heap) (locs : List Loc), LI G A s9 x y H locs → W p9 l e9 room_1 s9 m9 #[Value.ref b] below meth c9 H locs 600000 7302250 Q (F0 m9 786 ls [])) : W p9 l e9 room_1 s9 m9 #[Value.ref b] below meth c9 H locs 600000 7302250 Q (F0 m9 275 ls []) := by
  obtain ⟨t, T, S, n, B, nn, nf, fn, ff, wx, wm, hO, hX, hM, hW⟩ := hI
  refine lv_aload_n C.1 C.2.1 dL_law_275 rfl (lv_at hl 1 rfl) ?_
  refine lv_aload_n C.1 C.2.1 dL_law_276 rfl (lv_at hl 0 rfl) ?_
  refine lv_iload_n C.1 C.2.1 dL_law_277 rfl (lv_at hl 3 rfl) ?_
  refine lv_iconst (v := iI 1) C.1 C.2.1 dL_law_278 rfl ?_
  refine z_iadd C dL_law_279 ?_
  refine z_sld C hS9 hbl hbA hW hL (by omega) dL_law_280 ?_
  refine lv_aload_n C.1 C.2.1 dL_law_281 rfl (lv_at hl 0 rfl) ?_
  refine lv_iload_n C.1 C.2.1 dL_law_282 rfl (lv_at hl 3 rfl) ?_
  refine lv_iconst (v := iI 2) C.1 C.2.1 dL_law_283 rfl ?_
  refine z_iadd C dL_law_284 ?_
  refine z_sld C hS9 hbl hbA hW hL (by omega) dL_law_285 ?_
  refine x_at l G C hK hA _ _ (sv_rg _ _) (sv_rg _ _) hO hX hW ⟨hl.1, trivial⟩ dL_law_286 (fun z  wx H locs hX hans hW => ?_)
  refine lv_aload_n C.1 C.2.1 dL_law_289 rfl (lv_at hl 2 rfl) ?_
  refine lv_aload_n C.1 C.2.1 dL_law_290 rfl (lv_at hl 0 rfl) ?_
  refine lv_iload_n C.1 C.2.1 dL_law_291 rfl (lv_at hl 3 rfl) ?_
  refine lv_iconst (v := iI 1) C.1 C.2.1 dL_law_292 rfl ?_
  refine z_iadd C dL_law_293 ?_
  refine z_sld C hS9 hbl hbA hW hL (by omega) dL_law_294 ?_
  refine lv_aload_n C.1 C.2.1 dL_law_295 rfl (lv_at hl 0 rfl) ?_
  refine lv_iload_n C.1 C.2.1 dL_law_296 rfl (lv_at hl 3 rfl) ?_
  refine lv_iconst (v := iI 2) C.1 C.2.1 dL_law_297 rfl ?_
  refine z_iadd C dL_law_298 ?_
  refine z_sld C hS9 hbl hbA hW hL (by omega) dL_law_299 ?_
  refine y_at l G C hK hA _ _ (sv_rg _ _) (sv_rg _ _) hO hM hW ⟨hl.1, trivial⟩ dL_law_300 z hans (fun wm H locs hM hW => ?_)
  refine lv_icmp_eq (tgt := 786) C.1 C.2.1 dL_law_303 (by decide) (fun _ => ?_) (fun c8 => absurd rfl c8)
  exact kk _ _ ⟨_, _, _, _, _, _, _, _, _, _, _, hO, hX, hM, hW⟩
set_option maxHeartbeats 4000000 in
set_option maxRecDepth 100000 in
theorem k_first {p9 : Program} {e9 : Env} {s9 : State} {m9 : MethodId} {b : Nat} {below : List Frame} {meth : Method} {c9 : Code} {A : Nat → Prop} {Q : State → Prop} {H : Heap} {locs : List Loc} {ls : Array Slot} (l : Launch) (G : GG) (C : CallFix p9 m9 c9 code 4 s9 #[Value.ref b] wsL_law RL) (hK : KG G A s9 s9.heap) (hA : ∀ q, s9.heap.size ≤ q → A q) {L : Nat} {xs : Nat → Int32} (hS9 : va_X b L xs s9 s9.heap) (hbl : b < s9.heap.size) (hbA : ¬ A b) (hL : L ≤ 2048) {x y : Nat} {i : Int} (hi : 0 ≤ i ∧ i + 4 ≤ L) (hI : LI G A s9 x y H locs) (hl : lv_has ls 4 [(0, .ref b), (1, .ref x), (2, .ref y), (3, .int (iI i))]) (kk : ∀ (H : Heap) (locs : List Loc), LI G A s9 x y H locs → W p9 l e9 room_1 s9 m9 #[Value.ref b] below meth c9 H locs 600000 7302250 Q (F0 m9 786 ls [])) : W p9 l e9 room_1 s9 m9 #[Value.ref b] below meth c9 H locs 600000 7302250 Q (F0 m9 308 ls []) := by
  obtain ⟨t, T, S, n, B, nn, nf, fn, ff, wx, wm, hO, hX, hM, hW⟩ := hI
  refine lv_aload_n C.1 C.2.1 dL_law_308 rfl (lv_at hl 1 rfl) ?_
  refine lv_aload_n C.1 C.2.1 dL_law_309 rfl (lv_at hl 0 rfl) ?_
  refine lv_iload_n C.1 C.2.1 dL_law_310 rfl (lv_at hl 3 rfl) ?_
  refine lv_iconst (v := iI 1) C.1 C.2.1 dL_law_311 rfl ?_
  refine z_iadd C dL_law_312 ?_
  refine z_sld C hS9 hbl hbA hW hL (by omega) dL_law_313 ?_
  refine lv_aload_n C.1 C.2.1 dL_law_314 rfl (lv_at hl 0 rfl) ?_
  refine lv_iload_n C.1 C.2.1 dL_law_315 rfl (lv_at hl 3 rfl) ?_
  refine lv_iconst (v := iI 2) C.1 C.2.1 dL_law_316 rfl ?_
  refine z_iadd C dL_law_317 ?_
  refine z_sld C hS9 hbl hbA hW hL (by omega) dL_law_318 ?_
  refine x_first l G C hK hA _ _ (sv_rg _ _) (sv_rg _ _) hO hX hW ⟨hl.1, trivial⟩ dL_law_319 (fun z  wx H locs hX hans hW => ?_)
  refine lv_aload_n C.1 C.2.1 dL_law_322 rfl (lv_at hl 2 rfl) ?_
  refine lv_aload_n C.1 C.2.1 dL_law_323 rfl (lv_at hl 0 rfl) ?_
  refine lv_iload_n C.1 C.2.1 dL_law_324 rfl (lv_at hl 3 rfl) ?_
  refine lv_iconst (v := iI 1) C.1 C.2.1 dL_law_325 rfl ?_
  refine z_iadd C dL_law_326 ?_
  refine z_sld C hS9 hbl hbA hW hL (by omega) dL_law_327 ?_
  refine lv_aload_n C.1 C.2.1 dL_law_328 rfl (lv_at hl 0 rfl) ?_
  refine lv_iload_n C.1 C.2.1 dL_law_329 rfl (lv_at hl 3 rfl) ?_
  refine lv_iconst (v := iI 2) C.1 C.2.1 dL_law_330 rfl ?_
  refine z_iadd C dL_law_331 ?_
  refine z_sld C hS9 hbl hbA hW hL (by omega) dL_law_332 ?_
  refine y_first l G C hK hA _ _ (sv_rg _ _) (sv_rg _ _) hO hM hW ⟨hl.1, trivial⟩ dL_law_333 z hans (fun wm H locs hM hW => ?_)
  refine lv_icmp_eq (tgt := 786) C.1 C.2.1 dL_law_336 (by decide) (fun _ => ?_) (fun c8 => absurd rfl c8)
  exact kk _ _ ⟨_, _, _, _, _, _, _, _, _, _, _, hO, hX, hM, hW⟩
set_option maxHeartbeats 4000000 in
set_option maxRecDepth 100000 in
theorem k_often {p9 : Program} {e9 : Env} {s9 : State} {m9 : MethodId} {b : Nat} {below : List Frame} {meth : Method} {c9 : Code} {A : Nat → Prop} {Q : State → Prop} {H : Heap} {locs : List Loc} {ls : Array Slot} (l : Launch) (G : GG) (C : CallFix p9 m9 c9 code 4 s9 #[Value.ref b] wsL_law RL) (hK : KG G A s9 s9.heap) (hA : ∀ q, s9.heap.size ≤ q → A q) {L : Nat} {xs : Nat → Int32} (hS9 : va_X b L xs s9 s9.heap) (hbl : b < s9.heap.size) (hbA : ¬ A b) (hL : L ≤ 2048) {x y : Nat} {i : Int} (hi : 0 ≤ i ∧ i + 4 ≤ L) (hI : LI G A s9 x y H locs) (hl : lv_has ls 4 [(0, .ref b), (1, .ref x), (2, .ref y), (3, .int (iI i))]) (kk : ∀ (H : Heap) (locs : List Loc), LI G A s9 x y H locs → W p9 l e9 room_1 s9 m9 #[Value.ref b] below meth c9 H locs 600000 7302250 Q (F0 m9 786 ls [])) : W p9 l e9 room_1 s9 m9 #[Value.ref b] below meth c9 H locs 600000 7302250 Q (F0 m9 341 ls []) := by
  obtain ⟨t, T, S, n, B, nn, nf, fn, ff, wx, wm, hO, hX, hM, hW⟩ := hI
  refine lv_aload_n C.1 C.2.1 dL_law_341 rfl (lv_at hl 1 rfl) ?_
  refine lv_aload_n C.1 C.2.1 dL_law_342 rfl (lv_at hl 0 rfl) ?_
  refine lv_iload_n C.1 C.2.1 dL_law_343 rfl (lv_at hl 3 rfl) ?_
  refine lv_iconst (v := iI 1) C.1 C.2.1 dL_law_344 rfl ?_
  refine z_iadd C dL_law_345 ?_
  refine z_sld C hS9 hbl hbA hW hL (by omega) dL_law_346 ?_
  refine lv_aload_n C.1 C.2.1 dL_law_347 rfl (lv_at hl 0 rfl) ?_
  refine lv_iload_n C.1 C.2.1 dL_law_348 rfl (lv_at hl 3 rfl) ?_
  refine lv_iconst (v := iI 2) C.1 C.2.1 dL_law_349 rfl ?_
  refine z_iadd C dL_law_350 ?_
  refine z_sld C hS9 hbl hbA hW hL (by omega) dL_law_351 ?_
  refine lv_aload_n C.1 C.2.1 dL_law_352 rfl (lv_at hl 0 rfl) ?_
  refine lv_iload_n C.1 C.2.1 dL_law_353 rfl (lv_at hl 3 rfl) ?_
  refine lv_iconst (v := iI 3) C.1 C.2.1 dL_law_354 rfl ?_
  refine z_iadd C dL_law_355 ?_
  refine z_sld C hS9 hbl hbA hW hL (by omega) dL_law_356 ?_
  refine x_often l G C hK hA _ _ _ (sv_rg _ _) (sv_rg _ _) (sv_rg _ _) hO hX hW ⟨hl.1, trivial⟩ dL_law_357 (fun z  wx H locs hX hans hW => ?_)
  refine lv_aload_n C.1 C.2.1 dL_law_360 rfl (lv_at hl 2 rfl) ?_
  refine lv_aload_n C.1 C.2.1 dL_law_361 rfl (lv_at hl 0 rfl) ?_
  refine lv_iload_n C.1 C.2.1 dL_law_362 rfl (lv_at hl 3 rfl) ?_
  refine lv_iconst (v := iI 1) C.1 C.2.1 dL_law_363 rfl ?_
  refine z_iadd C dL_law_364 ?_
  refine z_sld C hS9 hbl hbA hW hL (by omega) dL_law_365 ?_
  refine lv_aload_n C.1 C.2.1 dL_law_366 rfl (lv_at hl 0 rfl) ?_
  refine lv_iload_n C.1 C.2.1 dL_law_367 rfl (lv_at hl 3 rfl) ?_
  refine lv_iconst (v := iI 2) C.1 C.2.1 dL_law_368 rfl ?_
  refine z_iadd C dL_law_369 ?_
  refine z_sld C hS9 hbl hbA hW hL (by omega) dL_law_370 ?_
  refine lv_aload_n C.1 C.2.1 dL_law_371 rfl (lv_at hl 0 rfl) ?_
  refine lv_iload_n C.1 C.2.1 dL_law_372 rfl (lv_at hl 3 rfl) ?_
  refine lv_iconst (v := iI 3) C.1 C.2.1 dL_law_373 rfl ?_
  refine z_iadd C dL_law_374 ?_
  refine z_sld C hS9 hbl hbA hW hL (by omega) dL_law_375 ?_
  refine y_often l G C hK hA _ _ _ (sv_rg _ _) (sv_rg _ _) (sv_rg _ _) hO hM hW ⟨hl.1, trivial⟩ dL_law_376 z hans (fun wm H locs hM hW => ?_)
  refine lv_icmp_eq (tgt := 786) C.1 C.2.1 dL_law_379 (by decide) (fun _ => ?_) (fun c8 => absurd rfl c8)
  exact kk _ _ ⟨_, _, _, _, _, _, _, _, _, _, _, hO, hX, hM, hW⟩
