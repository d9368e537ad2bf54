/-! making things: the rows of a constructor -/
theorem va_D.iff {A : Nat → Prop} {ws : va_W} : va_D A ws ↔ (ws.map Prod.fst).Nodup ∧ ∀ q ∈ ws, A q.1 := by
  constructor
  · rintro ⟨h1, h2⟩
    refine ⟨?_, fun q hq => by obtain ⟨k, hk⟩ := List.getElem?_of_mem hq; exact h2 k q hk⟩
    rw [List.Nodup, List.pairwise_iff_getElem]
    intro i j hi hj hij heq
    rw [List.getElem_map, List.getElem_map] at heq
    have := h1 i j _ _ (List.getElem?_eq_getElem (by simpa using hi)) (List.getElem?_eq_getElem (by simpa using hj)) heq
    omega
  · rintro ⟨h1, h2⟩
    refine ⟨fun i j p q hi hj hpq => ?_, fun k q hk => h2 q (List.mem_of_getElem? hk)⟩
    rw [List.Nodup, List.pairwise_iff_getElem] at h1
    obtain ⟨hi', rfl⟩ := List.getElem?_eq_some_iff.mp hi
    obtain ⟨hj', rfl⟩ := List.getElem?_eq_some_iff.mp hj
    rcases Nat.lt_trichotomy i j with r | r | r
    · exact absurd (by rw [List.getElem_map, List.getElem_map]; exact hpq) (h1 i j (by simpa using hi') (by simpa using hj') r)
    · exact r
    · exact absurd (by rw [List.getElem_map, List.getElem_map]; exact hpq.symm) (h1 j i (by simpa using hj') (by simpa using hi') r)
theorem Wd.perm {G : GG} {A : Nat → Prop} {H0 H : Heap} {ws ws' : va_W} {locs : List Loc} (h : Wd G A H0 ws H locs) (hp : ws.Perm ws') : Wd G A H0 ws' H locs := by
  obtain ⟨h1, h2, h3⟩ := h
  refine ⟨fun k q hq => ?_, ?_, h3⟩
  · obtain ⟨k', hk'⟩ := List.getElem?_of_mem (hp.mem_iff.mpr (List.mem_of_getElem? hq))
    exact h1 k' q hk'
  · obtain ⟨h4, h5⟩ := va_D.iff.mp h2
    exact va_D.iff.mpr ⟨(hp.map Prod.fst).nodup_iff.mp h4, fun q hq => h5 q (hp.mem_iff.mpr hq)⟩
theorem perm_mid {a b c : va_W} : ((a ++ b) ++ c).Perm ((a ++ c) ++ b) := by
  rw [List.append_assoc, List.append_assoc]
  exact List.Perm.append_left a List.perm_append_comm
/-- what makes arrays of rows and of sequences known -/
def AO2 (U : State) : Prop := va_AO RX5 U ∧ va_AO RX6 U
abbrev rmI (n mc ms : Nat) : Room := { frames := n, cells := mc, slots := ms, locals := 64 * n }
def zPreI (G : GG) (av : List Value) (w : va_W) (sz : Nat) : Array Value → State → Prop := va_Pc av (fun U => U.heap.size = sz ∧ va_P G.1 vwCl w U.heap ∧ KG G (va_A w sz) U U.heap ∧ va_D (fun _ => True) w ∧ AO2 U)
/-- a constructor's end: its cells and those that it made -/
def zI {S : Type} (G : GG) (A : Nat → Prop) (post : S → Prop) (w' : S → va_W) : Array Value → State → Outcome → State → Prop := fun _ st oc t => (oc = .returned none ∧ ∃ u : S, post u ∧ va_P G.1 vwCl (w' u) t.heap ∧ va_D A (w' u)) ∧ va_F A st t
def MIc (l : Launch) (y : MethodName) (ws : List Cond) (lev mc ms : Nat) (G : GG) (av : List Value) (w : va_W) {S : Type} (post : S → Prop) (w' : S → va_W) : Prop := ∀ sz : Nat, Met l y ws (rmI lev mc ms) (zPreI G av w sz) (zI G (va_A w sz) post w') mc ms (va_A w sz)
theorem zPreI.blind {G : GG} {av : List Value} {w : va_W} {sz : Nat} : FrameBlind (zPreI G av w sz) := fun a U g mk q => by
  obtain ⟨q1, q2, q3, q4, q5, q6⟩ := q
  exact ⟨q1, q2, q3, KG.blind (U := U) rfl q4 rfl, q5, va_AO.moved (Vm.Alike.refl U.vm) q6.1, va_AO.moved (Vm.Alike.refl U.vm) q6.2⟩
theorem MIc.start {l : Launch} {y : MethodName} {ws ws' : List Cond} {lev mc ms : Nat} {G : GG} {av : List Value} {w : va_W} {S : Type} {post : S → Prop} {w' : S → va_W} {cc : ByteArray} {maxL : Nat} {ret : Option FieldType} {own : String}
    (hy : plainName y.cls = true) (hw : ws = Cond.code y cc maxL ret :: ws') (hown : y.cls = own) (hn : (lg_sl av).length ≤ maxL) (hyn : y.name = "<init>")
    (body : ∀ (p : Program) (e : Env) (s : State) (m : MethodId) (args : Array Value) (below : List Frame) (meth : Method) (c : Code) (A : Nat → Prop) (Q : State → Prop), CallFix p m c cc maxL s args ws own → KG G A s s.heap → Wd G A s.heap w s.heap [] → (∀ q, s.heap.size ≤ q → A q) → meth.sig.returnType = ret → meth.locks = false → meth.name = "<init>" → AO2 s →
      Q = MQ below (zI G A post w') args s mc ms A → ∀ ls, lv_has ls maxL (lv_args 0 av) → W p l e (rmI lev mc ms) s m args below meth c s.heap [] 0 0 Q (F0 m 0 ls [])) : MIc l y ws lev mc ms G av w post w' := by
  intro sz
  refine Met.ofW (cc := cc) (maxL := maxL) (ret := ret) hy hw ?_
  intro p e s m args below meth c s₁ B hml hv
  obtain ⟨rfl, hsz, hP, hK, hD0, hO⟩ := hv
  subst hsz
  subst hown
  have hl := lv_entry av (n := maxL) hn
  rw [lg_entry_eq]
  exact body p e s m _ below meth c (va_A w s.heap.size) _ ⟨B.exec, B.bytes, hml, findClass_of_methodNamed B.named, atoms_spec (ws := ws) B.pre⟩ hK ⟨hP, hD0.self (sz := s.heap.size), va_S.rf⟩ (fun q h => Or.inr h) B.returns B.notSynchronized ((name_of_methodNamed B.named B.method).1.trans hyn) hO rfl _ hl
theorem rg_map {l r : va_W} : (List.range l.length).map (fun i => (l ++ r)[i]?) = l.map some := by
  apply List.ext_getElem (by simp)
  intro i h1 h2
  simp only [List.length_map, List.length_range] at h1
  rw [List.getElem_map, List.getElem_map, List.getElem_range, List.getElem?_append_left h1, List.getElem?_eq_getElem h1]
theorem rg_map2 {l r : va_W} : (List.range' l.length r.length).map (fun i => (l ++ r)[i]?) = r.map some := by
  apply List.ext_getElem (by simp)
  intro i h1 h2
  simp only [List.length_map, List.length_range'] at h1
  rw [List.getElem_map, List.getElem_map, List.getElem_range', List.getElem?_append_right (by omega), show l.length + 1 * i - l.length = i by omega, List.getElem?_eq_getElem h1]
section ZI
variable {p : Program} {l : Launch} {e : Env} {R : Room} {s : State} {m : MethodId} {args : Array Value} {below : List Frame} {meth : Method} {c : Code} {H : Heap} {locs : List Loc} {cells slots : Nat} {Q : State → Prop} {cc : ByteArray} {nL : Nat} {Ts : List Cond} {own : String} {G : GG} {A : Nat → Prop} {H0 : Heap} {ws : va_W} {pc : Nat} {ls : Array Slot} {rest : List Value} {a : Nat}
theorem z_new (C : CallFix p m c cc nL s args Ts own) (hK : KG G A s s.heap) (hW : Wd G A H0 ws H locs) (hA : ∀ q, H0.size ≤ q → A q) {D : String} {T : u_T} {N ci index : Nat} (hin : ∀ w ∈ u_ws D T N, w ∈ Ts) (ty : Nat → FieldType) (hty : ∀ k, k < N → parseFieldDescriptor (T k).2.2.1 = some (ty k)) (hcl : (Cond.classLink own index D).before args s = true) (hinst : (Cond.instantiable D N).before args s = true) (hini : (Cond.initialized D).before args s = true) (hc : vwCl[ci]? = some (D, T, N)) {fs : List Value} (hfs : ∀ j, j < N → defaultValue (ty j) = vp_V fs j) (hcells : cells + 1 ≤ R.cells) (hslots : slots + N ≤ R.slots) (hdg : decode cc pc = .ok (.new index, 3))
    (kk : ∀ (q : Nat) (H1 : Heap), Wd G A H0 ((q, .inr (ci, fs)) :: ws) H1 locs → W p l e R s m args below meth c H1 locs (cells + 1) (slots + N) Q (F0 m (pc + 3) ls (.ref q :: rest))) : W p l e R s m args below meth c H locs cells slots Q (F0 m pc ls rest) :=
  va_new C.1 C.2.1 C.2.2.2.2 hin ty hty C.2.2.2.1 hcl hinst hini hK.1 hW.1 hW.2.1 hW.2.2 hA hc hfs hcells hslots hdg (fun q H1 h1 h2 h3 => kk q H1 (Wd.perm ⟨h1, h2, h3⟩ List.perm_append_comm))
theorem z_newaI (C : CallFix p m c cc nL s args Ts own) (hK : KG G A s s.heap) (hW : Wd G A H0 ws H locs) (hA : ∀ q, H0.size ≤ q → A q) (harr : (Cond.arrayClass .int).before args s = true) {n : Int} (N' : Nat) (hn : n = (N' : Int) ∧ N' ≤ 100000) (hcells : cells + 1 ≤ R.cells) (hslots : slots + N' ≤ R.slots) (hdg : decode cc pc = .ok (.newarray .int, 2))
    (kk : ∀ (q : Nat) (H1 : Heap), Wd G A H0 ((q, .inl (G.2.1 0, N', .inl (iA (fun _ => 0)))) :: ws) H1 locs → W p l e R s m args below meth c H1 locs (cells + 1) (slots + N') Q (F0 m (pc + 2) ls (.ref q :: rest))) : W p l e R s m args below meth c H locs cells slots Q (F0 m pc ls (.int (iI n) :: rest)) := by
  obtain ⟨rfl, hN⟩ := hn
  refine va_newa (atype := .int) (ty := .int) (a0 := (N', .inl (iA (fun _ => 0)))) C.1 C.2.1 harr rfl hK.1 hW.1 hW.2.1 hW.2.2 hA (fun cA => rfl) (fun h => ?_) (by rw [iI_tn (by omega) (by omega)]; omega) (by show N' * 4 ≤ _; omega) hcells hslots hdg (fun q cA H1 hK1 h1 h2 h3 => ?_)
  · rw [← iI_0, iI_lt ⟨by omega, by omega⟩] at h
    omega
  · have e1 : s.vm.findClass ("[" ++ FieldType.int.toString) = some cA := (hK1.2 5 _ rfl).2
    have e2 : s.vm.findClass ("[" ++ FieldType.int.toString) = some (G.2.1 0) := (hK.1.2 0 _ rfl).2
    have e3 : cA = G.2.1 0 := Option.some.inj (e1.symm.trans e2)
    subst e3
    exact kk q H1 (Wd.perm ⟨h1, h2, h3⟩ List.perm_append_comm)
theorem z_newaB (C : CallFix p m c cc nL s args Ts own) (hK : KG G A s s.heap) (hW : Wd G A H0 ws H locs) (hA : ∀ q, H0.size ≤ q → A q) (harr : (Cond.arrayClass .byte).before args s = true) {n : Int} (N' : Nat) (hn : n = (N' : Int) ∧ N' ≤ 100000) (hcells : cells + 1 ≤ R.cells) (hslots : slots + N' ≤ R.slots) (hdg : decode cc pc = .ok (.newarray .byte, 2))
    (kk : ∀ (q : Nat) (H1 : Heap), Wd G A H0 ((q, .inl (G.2.1 1, N', .inl (iA (fun _ => 0)))) :: ws) H1 locs → W p l e R s m args below meth c H1 locs (cells + 1) (slots + N') Q (F0 m (pc + 2) ls (.ref q :: rest))) : W p l e R s m args below meth c H locs cells slots Q (F0 m pc ls (.int (iI n) :: rest)) := by
  obtain ⟨rfl, hN⟩ := hn
  refine va_newa (atype := .byte) (ty := .byte) (a0 := (N', .inl (iA (fun _ => 0)))) C.1 C.2.1 harr rfl hK.1 hW.1 hW.2.1 hW.2.2 hA (fun cA => rfl) (fun h => ?_) (by rw [iI_tn (by omega) (by omega)]; omega) (by show N' * 1 ≤ _; omega) hcells hslots hdg (fun q cA H1 hK1 h1 h2 h3 => ?_)
  · rw [← iI_0, iI_lt ⟨by omega, by omega⟩] at h
    omega
  · have e1 : s.vm.findClass ("[" ++ FieldType.byte.toString) = some cA := (hK1.2 5 _ rfl).2
    have e2 : s.vm.findClass ("[" ++ FieldType.byte.toString) = some (G.2.1 1) := (hK.1.2 1 _ rfl).2
    have e3 : cA = G.2.1 1 := Option.some.inj (e1.symm.trans e2)
    subst e3
    exact kk q H1 (Wd.perm ⟨h1, h2, h3⟩ List.perm_append_comm)
theorem z_newaZ (C : CallFix p m c cc nL s args Ts own) (hK : KG G A s s.heap) (hW : Wd G A H0 ws H locs) (hA : ∀ q, H0.size ≤ q → A q) (harr : (Cond.arrayClass .boolean).before args s = true) {n : Int} (N' : Nat) (hn : n = (N' : Int) ∧ N' ≤ 100000) (hcells : cells + 1 ≤ R.cells) (hslots : slots + N' ≤ R.slots) (hdg : decode cc pc = .ok (.newarray .boolean, 2))
    (kk : ∀ (q : Nat) (H1 : Heap), Wd G A H0 ((q, .inl (G.2.1 2, N', .inl (iA (fun _ => 0)))) :: ws) H1 locs → W p l e R s m args below meth c H1 locs (cells + 1) (slots + N') Q (F0 m (pc + 2) ls (.ref q :: rest))) : W p l e R s m args below meth c H locs cells slots Q (F0 m pc ls (.int (iI n) :: rest)) := by
  obtain ⟨rfl, hN⟩ := hn
  refine va_newa (atype := .boolean) (ty := .boolean) (a0 := (N', .inl (iA (fun _ => 0)))) C.1 C.2.1 harr rfl hK.1 hW.1 hW.2.1 hW.2.2 hA (fun cA => rfl) (fun h => ?_) (by rw [iI_tn (by omega) (by omega)]; omega) (by show N' * 1 ≤ _; omega) hcells hslots hdg (fun q cA H1 hK1 h1 h2 h3 => ?_)
  · rw [← iI_0, iI_lt ⟨by omega, by omega⟩] at h
    omega
  · have e1 : s.vm.findClass ("[" ++ FieldType.boolean.toString) = some cA := (hK1.2 5 _ rfl).2
    have e2 : s.vm.findClass ("[" ++ FieldType.boolean.toString) = some (G.2.1 2) := (hK.1.2 2 _ rfl).2
    have e3 : cA = G.2.1 2 := Option.some.inj (e1.symm.trans e2)
    subst e3
    exact kk q H1 (Wd.perm ⟨h1, h2, h3⟩ List.perm_append_comm)
theorem z_newq5 (C : CallFix p m c cc nL s args Ts own) (hK : KG G A s s.heap) (hW : Wd G A H0 ws H locs) (hA : ∀ q, H0.size ≤ q → A q) (hO : AO2 s) {index : Nat} (hcl : (Cond.classLink own index RX5).before args s = true) {n : Int} (N' : Nat) (hn : n = (N' : Int) ∧ N' ≤ 100000) (hcells : cells + 1 ≤ R.cells) (hslots : slots + N' ≤ R.slots) (hdg : decode cc pc = .ok (.anewarray index, 3))
    (kk : ∀ (q : Nat) (H1 : Heap), Wd G A H0 ((q, .inl (G.2.1 3, N', .inr (.inr (.inr (.inr (fun _ => none)))))) :: ws) H1 locs → W p l e R s m args below meth c H1 locs (cells + 1) (slots + N') Q (F0 m (pc + 3) ls (.ref q :: rest))) : W p l e R s m args below meth c H locs cells slots Q (F0 m pc ls (.int (iI n) :: rest)) := by
  obtain ⟨rfl, hN⟩ := hn
  refine va_newq C.1 C.2.1 C.2.2.2.1 hcl hO.1 hK.1 hW.1 hW.2.1 hW.2.2 hA (fun h => ?_) (by rw [iI_tn (by omega) (by omega)]; exact Int.toNat_natCast N') (by omega) hcells hslots hdg (fun q cA H1 hK1 h1 h2 h3 => ?_)
  · rw [← iI_0, iI_lt ⟨by omega, by omega⟩] at h
    omega
  · obtain ⟨-, -, -, -, -, e1⟩ := (hK1.2 5 _ rfl).2
    obtain ⟨-, -, -, -, -, e2⟩ := (hK.1.2 3 _ rfl).2
    have e3 : cA = G.2.1 3 := Option.some.inj (e1.symm.trans e2)
    subst e3
    exact kk q H1 (Wd.perm ⟨h1, h2, h3⟩ List.perm_append_comm)
theorem z_newq6 (C : CallFix p m c cc nL s args Ts own) (hK : KG G A s s.heap) (hW : Wd G A H0 ws H locs) (hA : ∀ q, H0.size ≤ q → A q) (hO : AO2 s) {index : Nat} (hcl : (Cond.classLink own index RX6).before args s = true) {n : Int} (N' : Nat) (hn : n = (N' : Int) ∧ N' ≤ 100000) (hcells : cells + 1 ≤ R.cells) (hslots : slots + N' ≤ R.slots) (hdg : decode cc pc = .ok (.anewarray index, 3))
    (kk : ∀ (q : Nat) (H1 : Heap), Wd G A H0 ((q, .inl (G.2.1 4, N', .inr (.inr (.inr (.inr (fun _ => none)))))) :: ws) H1 locs → W p l e R s m args below meth c H1 locs (cells + 1) (slots + N') Q (F0 m (pc + 3) ls (.ref q :: rest))) : W p l e R s m args below meth c H locs cells slots Q (F0 m pc ls (.int (iI n) :: rest)) := by
  obtain ⟨rfl, hN⟩ := hn
  refine va_newq C.1 C.2.1 C.2.2.2.1 hcl hO.2 hK.1 hW.1 hW.2.1 hW.2.2 hA (fun h => ?_) (by rw [iI_tn (by omega) (by omega)]; exact Int.toNat_natCast N') (by omega) hcells hslots hdg (fun q cA H1 hK1 h1 h2 h3 => ?_)
  · rw [← iI_0, iI_lt ⟨by omega, by omega⟩] at h
    omega
  · obtain ⟨-, -, -, -, -, e1⟩ := (hK1.2 5 _ rfl).2
    obtain ⟨-, -, -, -, -, e2⟩ := (hK.1.2 4 _ rfl).2
    have e3 : cA = G.2.1 4 := Option.some.inj (e1.symm.trans e2)
    subst e3
    exact kk q H1 (Wd.perm ⟨h1, h2, h3⟩ List.perm_append_comm)
theorem z_putF (C : CallFix p m c cc nL s args Ts own) (hK : KG G A s s.heap) (hW : Wd G A H0 ws H locs) {ref D : String} {T : u_T} {N ci index : Nat} (hin : ∀ w ∈ u_ws D T N, w ∈ Ts) (ty0 : Nat → FieldType) (hty : ∀ k, k < N → parseFieldDescriptor (T k).2.2.1 = some (ty0 k)) (hnm : ∀ a, a < N → ∀ b, b < N → a ≠ b → (T a).2.1 ≠ (T b).2.1) (q0 : Nat) {fs : List Value} (he : ws[q0]? = some (a, .inr (ci, fs))) (hc : vwCl[ci]? = some (D, T, N)) (k : Nat) (hk : k < N) (hlink : (Cond.fieldLink own index ref (T k).2.1 (T k).2.2.1).before args s = true) (hsame : ∀ x, s.fieldFound? (T k).1 (T k).2.1 (T k).2.2.1 = some x → s.fieldFound? ref (T k).2.1 (T k).2.2.1 = some x) (hfin : (T k).2.2.2 = true) (hnm2 : meth.name = "<init>") (hdecl : (T k).1 = own) {v : Value} (hn : narrow (ty0 k) v = v) (hfit : fits (ty0 k) v = true) (hl : k < fs.length) (hdg : decode cc pc = .ok (.putfield index, 3)) (kk : ∀ (H1 : Heap) (locs1 : List Loc), Wd G A H0 (ws.set q0 (a, .inr (ci, fs.set k v))) H1 locs1 → W p l e R s m args below meth c H1 locs1 cells slots Q (F0 m (pc + 3) ls rest)) : W p l e R s m args below meth c H locs cells slots Q (F0 m pc ls (v :: .ref a :: rest)) :=
  va_putF C.1 C.2.1 C.2.2.2.2 hin ty0 hty hnm C.2.2.2.1 hK.1 hW.1 hW.2.1 hW.2.2 q0 he hc k hk hlink hsame hfin hnm2 hdecl (hty k hk) hn hfit hl hdg (fun H1 locs1 h1 h2 h3 => kk H1 locs1 ⟨h1, h2, h3⟩)
theorem z_astq (C : CallFix p m c cc nL s args Ts own) (hK : KG G A s s.heap) (hW : Wd G A H0 ws H locs) (q0 t0 qk ci : Nat) {r : vw_C} {n v : Nat} {vs : List Value} {f : Nat → Option Nat} (ha : ws[q0]? = some (a, .inl (G.2.1 t0, n, .inr (.inr (.inr (.inr f)))))) (ht : (tysG G)[t0]? = some (G.2.1 t0, .object r.1)) (hv : ws[qk]? = some (v, .inr (ci, vs))) (hc : vwCl[ci]? = some r) {z : Int} (hn : n ≤ 2147483647) (hz : 0 ≤ z ∧ z < n) (hdg : decode cc pc = .ok (.aastore, 1))
    (kk : ∀ (H1 : Heap) (locs1 : List Loc), Wd G A H0 (ws.set q0 (a, .inl (G.2.1 t0, n, .inr (.inr (.inr (.inr (va_up f z.toNat (some v)))))))) H1 locs1 → W p l e R s m args below meth c H1 locs1 cells slots Q (F0 m (pc + 1) ls rest)) : W p l e R s m args below meth c H locs cells slots Q (F0 m pc ls (.ref v :: .int (iI z) :: .ref a :: rest)) :=
  va_astq C.1 C.2.1 hK.1 hW.1 hW.2.1 hW.2.2 q0 t0 qk ci ha ht hv hc (iI_in hz hn) hdg (fun H1 locs1 h1 h2 h3 => kk H1 locs1 (by rw [iI_tn hz.1 (by omega)] at h1 h2; exact ⟨h1, h2, h3⟩))
theorem z_obj (C : CallFix p m c cc nL s args Ts own) (hls : ls.size = nL) {idx : Nat} (hlink : (Cond.methodLink own idx Lib.objectInit).before args s = true) (hinst : (Cond.instanceMethod Lib.objectInit).before args s = true) (hcode : (Cond.code Lib.objectInit ⟨#[0xb1]⟩ 1 none).before args s = true) (hframes : 1 ≤ R.frames) (hlocals : (rest.map fun v => v.category).sum + 12 ≤ R.locals) (hdg : decode cc pc = .ok (.invokespecial idx, 3)) (kk : W p l e R s m args below meth c H locs cells slots Q (F0 m (pc + 3) ls rest)) : W p l e R s m args below meth c H locs cells slots Q (F0 m pc ls (.ref a :: rest)) :=
  W.objInit C.1 C.2.1 C.2.2.2.1 hlink hinst hcode rfl (hls.trans C.2.2.1.symm) rfl hdg hframes (by show 2 * 0 + _ + 12 ≤ _; omega) kk
theorem z_callI {S : Type} {post : S → Prop} {w' : S → va_W} {wc wr : va_W} {mc ms : Nat} {av : Array Value} {st0 : List Value} (hr : va_Run p l e R s m args below meth c H locs cells slots mc ms (F0 m pc ls st0) rest (zI G (va_A wc H.size) post w' av) (va_A wc H.size)) (hW : Wd G A H0 (wc ++ wr) H locs) (hA : ∀ q, H0.size ≤ q → A q)
    (kk : ∀ (u : S) (H1 : Heap) (locs1 : List Loc), post u → Wd G A H0 (w' u ++ wr) H1 locs1 → W p l e R s m args below meth c H1 locs1 (cells + mc) (slots + ms) Q (F0 m (pc + 3) ls rest)) : W p l e R s m args below meth c H locs cells slots Q (F0 m pc ls st0) := by
  intro T hT X
  obtain ⟨v, st₀, t, T', L, h0, X', hL, e1, e2, ⟨⟨hv, u, hp, hb, hd⟩, hz, hk⟩, st⟩ := hr T hT X
  cases hv
  rw [h0] at hz hk
  have hF := va_free hW.2.1 hW.2.2 hA (List.range wc.length) rg_map
  have hJ := va_join hW.1 hW.2.1 (List.range wc.length) (List.range' wc.length wr.length) rg_map rg_map2 (pq_nd1 _ _) (fun i hi hi2 => by
    have h1 := List.mem_range'_1.mp hi
    have h2 := List.mem_range.mp hi2
    omega) hk hF hb hd
  have hS := hW.2.2
  obtain ⟨t2, a1, b1⟩ := kk u t.heap (locs ++ L) hp (Wd.perm ⟨hJ.1, hJ.2, Nat.le_trans hS.1 hz, fun q h1 h2 => by
      rw [hk q (Nat.lt_of_lt_of_le h1 hS.1) (fun z => h2 (hF q z))]
      exact hS.2.1 q h1 h2, fun q hq => by
      rcases List.mem_append.mp hq with h | h
      · exact hS.2.2 q h
      · exact hF _ (hL q h)⟩ List.perm_append_comm) T' e1 X'
  exact ⟨t2, st t2 a1, b1⟩
theorem z_preI (hK : KG G A s s.heap) (hO : AO2 s) {wc wr : va_W} (hW : Wd G A s.heap (wc ++ wr) H locs) (hA : ∀ q, s.heap.size ≤ q → A q) {As : List Value} : PreS s H (zPreI G As wc H.size) As :=
  ⟨zPreI.blind, fun U hU hWm => ⟨rfl, by rw [hU], by rw [hU]; exact va_P.of_map hW.1 (List.range wc.length) rg_map, hK.call hW.2.2 (va_free hW.2.1 hW.2.2 hA (List.range wc.length) rg_map) hWm hU, (hW.2.1.sub (List.range wc.length) (by rw [List.range_eq_range']; exact pq_nd1 _ _) rg_map).weaken (fun _ _ _ _ => trivial), va_AO.moved hWm.alike hO.1, va_AO.moved hWm.alike hO.2⟩⟩
theorem z_vretI {S : Type} {post : S → Prop} {w' : S → va_W} (C : CallFix p m c cc nL s args Ts own) (hr : meth.sig.returnType = none) (hlocks : meth.locks = false) (hW : Wd G A s.heap ws H locs) (u : S) (hw : w' u = ws) (hp : post u) {mc ms : Nat} (hm : cells ≤ mc ∧ slots ≤ ms) (hdg : decode cc pc = .ok (.return_, 1)) : W p l e R s m args below meth c H locs cells slots (MQ below (zI G A post w') args s mc ms A) (F0 m pc ls []) :=
  W.widen hm.1 hm.2 (W.vret C.1 C.2.1 hr (fun t ht _ => ⟨⟨rfl, u, hp, by rw [ht, hw]; exact hW.1, by rw [hw]; exact hW.2.1⟩, hW.2.2.F ht⟩) hW.2.2.2.2 hdg hlocks)
end ZI
