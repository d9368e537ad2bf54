theorem va_P.of_map {D : va_G} {cl : List vw_C} {ws wc : va_W} {H : Heap} (h : va_P D cl ws H) (is : List Nat) (hC : is.map (fun i => ws[i]?) = wc.map some) : va_P D cl wc H := by
  intro k q hq
  have h2 := congrArg (fun l => l[k]?) hC
  simp only [List.getElem?_map, hq, Option.map_some] at h2
  cases hi : is[k]? with
  | none => rw [hi] at h2; cases h2
  | some i =>
    rw [hi] at h2
    exact h i q (by simpa using h2)
/-! rows of the walk, over CallFix and Wd -/
section ZR
variable {p : Program} {l : Launch} {e : Env} {R : Room} {s : State} {m : MethodId} {args : Array Value} {below : List Frame} {meth : Method} {c : Code} {H : Heap} {locs : List Loc} {cells slots : Nat} {Q : State → Prop} {cc : ByteArray} {nL : Nat} {Ts : List Cond} {own : String} {G : GG} {A : Nat → Prop} {H0 : Heap} {ws : va_W} {pc : Nat} {ls : Array Slot} {rest : List Value} {a : Nat}
theorem z_iadd (C : CallFix p m c cc nL s args Ts own) {x y : Int} (hdg : decode cc pc = .ok (.iadd, 1)) (k : W p l e R s m args below meth c H locs cells slots Q (F0 m (pc + 1) ls (.int (iI (x + y)) :: rest))) : W p l e R s m args below meth c H locs cells slots Q (F0 m pc ls (.int (iI y) :: .int (iI x) :: rest)) := lv_iadd C.1 C.2.1 hdg (by rw [iI_add]; exact k)
theorem z_isub (C : CallFix p m c cc nL s args Ts own) {x y : Int} (hdg : decode cc pc = .ok (.isub, 1)) (k : W p l e R s m args below meth c H locs cells slots Q (F0 m (pc + 1) ls (.int (iI (x - y)) :: rest))) : W p l e R s m args below meth c H locs cells slots Q (F0 m pc ls (.int (iI y) :: .int (iI x) :: rest)) := lv_isub C.1 C.2.1 hdg (by rw [iI_sub]; exact k)
theorem z_imul (C : CallFix p m c cc nL s args Ts own) {x y : Int} (hdg : decode cc pc = .ok (.imul, 1)) (k : W p l e R s m args below meth c H locs cells slots Q (F0 m (pc + 1) ls (.int (iI (x * y)) :: rest))) : W p l e R s m args below meth c H locs cells slots Q (F0 m pc ls (.int (iI y) :: .int (iI x) :: rest)) := lv_imul C.1 C.2.1 hdg (by rw [iI_mul]; exact k)
theorem iI_div {a b : Int} (h : (0 ≤ a ∧ a ≤ 2147483647) ∧ (0 < b ∧ b ≤ 2147483647)) : iI a / iI b = iI (a / b) := by
  have e1 : Int32.minValue.toInt = -2147483648 := by decide
  have e2 : Int32.maxValue.toInt = 2147483647 := by decide
  unfold iI
  rw [← Int32.ofInt_tdiv (by omega) (by omega) (by omega) (by omega), Int.tdiv_eq_ediv_of_nonneg h.1.1]
theorem z_idiv (C : CallFix p m c cc nL s args Ts own) {x y : Int} (hdg : decode cc pc = .ok (.idiv, 1)) (hb : (0 ≤ x ∧ x ≤ 2147483647) ∧ (0 < y ∧ y ≤ 2147483647)) (k : W p l e R s m args below meth c H locs cells slots Q (F0 m (pc + 1) ls (.int (iI (x / y)) :: rest))) : W p l e R s m args below meth c H locs cells slots Q (F0 m pc ls (.int (iI y) :: .int (iI x) :: rest)) :=
  lv_idiv C.1 C.2.1 hdg (fun z => by rw [← iI_0, iI_eq ⟨by omega, by omega⟩] at z; omega) (by rw [iI_div hb]; exact k)
theorem z_irem (C : CallFix p m c cc nL s args Ts own) {x y : Int} (hdg : decode cc pc = .ok (.irem, 1)) (hb : (0 ≤ x ∧ x ≤ 2147483647) ∧ (0 < y ∧ y ≤ 2147483647)) (k : W p l e R s m args below meth c H locs cells slots Q (F0 m (pc + 1) ls (.int (iI (x % y)) :: rest))) : W p l e R s m args below meth c H locs cells slots Q (F0 m pc ls (.int (iI y) :: .int (iI x) :: rest)) :=
  lv_irem C.1 C.2.1 hdg (fun z => by rw [← iI_0, iI_eq ⟨by omega, by omega⟩] at z; omega) (by rw [iI_div hb, iI_mul, iI_sub, show x - x / y * y = x % y by rw [Int.emod_def, Int.mul_comm]]; exact k)
theorem z_icmp_eq (C : CallFix p m c cc nL s args Ts own) {x y : Int} {off : Int} {tgt : Nat} (hdg : decode cc pc = .ok (.if_icmp .eq off, 3)) (ht : (pc : Int) + off = (tgt : Int)) (hb : ((-2147483648 ≤ x ∧ x ≤ 2147483647) ∧ (-2147483648 ≤ y ∧ y ≤ 2147483647))) (kt : x = y → W p l e R s m args below meth c H locs cells slots Q (F0 m tgt ls rest)) (kf : x ≠ y → W p l e R s m args below meth c H locs cells slots Q (F0 m (pc + 3) ls rest)) : W p l e R s m args below meth c H locs cells slots Q (F0 m pc ls (.int (iI y) :: .int (iI x) :: rest)) := by
  exact lv_icmp_eq C.1 C.2.1 hdg ht (fun h => kt ((iI_eq hb).mp h)) (fun h => kf (fun z => h ((iI_eq hb).mpr z)))
theorem z_if_eq (C : CallFix p m c cc nL s args Ts own) {x : Int} {off : Int} {tgt : Nat} (hdg : decode cc pc = .ok (.ifCond .eq off, 3)) (ht : (pc : Int) + off = (tgt : Int)) (hb : (-2147483648 ≤ x ∧ x ≤ 2147483647)) (kt : x = 0 → W p l e R s m args below meth c H locs cells slots Q (F0 m tgt ls rest)) (kf : x ≠ 0 → W p l e R s m args below meth c H locs cells slots Q (F0 m (pc + 3) ls rest)) : W p l e R s m args below meth c H locs cells slots Q (F0 m pc ls (.int (iI x) :: rest)) := by
  have hb : ((-2147483648 ≤ x ∧ x ≤ 2147483647) ∧ ((-2147483648 : Int) ≤ 0 ∧ (0 : Int) ≤ 2147483647)) := ⟨hb, by omega⟩
  exact lv_if_eq C.1 C.2.1 hdg ht (fun h => kt ((iI_eq hb).mp h)) (fun h => kf (fun z => h ((iI_eq hb).mpr z)))
theorem z_icmp_ne (C : CallFix p m c cc nL s args Ts own) {x y : Int} {off : Int} {tgt : Nat} (hdg : decode cc pc = .ok (.if_icmp .ne off, 3)) (ht : (pc : Int) + off = (tgt : Int)) (hb : ((-2147483648 ≤ x ∧ x ≤ 2147483647) ∧ (-2147483648 ≤ y ∧ y ≤ 2147483647))) (kt : x ≠ y → W p l e R s m args below meth c H locs cells slots Q (F0 m tgt ls rest)) (kf : x = y → W p l e R s m args below meth c H locs cells slots Q (F0 m (pc + 3) ls rest)) : W p l e R s m args below meth c H locs cells slots Q (F0 m pc ls (.int (iI y) :: .int (iI x) :: rest)) := by
  exact lv_icmp_ne C.1 C.2.1 hdg ht (fun h => kt (fun z => h ((iI_eq hb).mpr z))) (fun h => kf ((iI_eq hb).mp h))
theorem z_if_ne (C : CallFix p m c cc nL s args Ts own) {x : Int} {off : Int} {tgt : Nat} (hdg : decode cc pc = .ok (.ifCond .ne off, 3)) (ht : (pc : Int) + off = (tgt : Int)) (hb : (-2147483648 ≤ x ∧ x ≤ 2147483647)) (kt : x ≠ 0 → W p l e R s m args below meth c H locs cells slots Q (F0 m tgt ls rest)) (kf : x = 0 → W p l e R s m args below meth c H locs cells slots Q (F0 m (pc + 3) ls rest)) : W p l e R s m args below meth c H locs cells slots Q (F0 m pc ls (.int (iI x) :: rest)) := by
  have hb : ((-2147483648 ≤ x ∧ x ≤ 2147483647) ∧ ((-2147483648 : Int) ≤ 0 ∧ (0 : Int) ≤ 2147483647)) := ⟨hb, by omega⟩
  exact lv_if_ne C.1 C.2.1 hdg ht (fun h => kt (fun z => h ((iI_eq hb).mpr z))) (fun h => kf ((iI_eq hb).mp h))
theorem z_icmp_lt (C : CallFix p m c cc nL s args Ts own) {x y : Int} {off : Int} {tgt : Nat} (hdg : decode cc pc = .ok (.if_icmp .lt off, 3)) (ht : (pc : Int) + off = (tgt : Int)) (hb : ((-2147483648 ≤ x ∧ x ≤ 2147483647) ∧ (-2147483648 ≤ y ∧ y ≤ 2147483647))) (kt : x < y → W p l e R s m args below meth c H locs cells slots Q (F0 m tgt ls rest)) (kf : y ≤ x → W p l e R s m args below meth c H locs cells slots Q (F0 m (pc + 3) ls rest)) : W p l e R s m args below meth c H locs cells slots Q (F0 m pc ls (.int (iI y) :: .int (iI x) :: rest)) := by
  exact lv_icmp_lt C.1 C.2.1 hdg ht (fun h => kt ((iI_lt hb).mp h)) (fun h => kf (Int.not_lt.mp (fun z => h ((iI_lt hb).mpr z))))
theorem z_if_lt (C : CallFix p m c cc nL s args Ts own) {x : Int} {off : Int} {tgt : Nat} (hdg : decode cc pc = .ok (.ifCond .lt off, 3)) (ht : (pc : Int) + off = (tgt : Int)) (hb : (-2147483648 ≤ x ∧ x ≤ 2147483647)) (kt : x < 0 → W p l e R s m args below meth c H locs cells slots Q (F0 m tgt ls rest)) (kf : 0 ≤ x → W p l e R s m args below meth c H locs cells slots Q (F0 m (pc + 3) ls rest)) : W p l e R s m args below meth c H locs cells slots Q (F0 m pc ls (.int (iI x) :: rest)) := by
  have hb : ((-2147483648 ≤ x ∧ x ≤ 2147483647) ∧ ((-2147483648 : Int) ≤ 0 ∧ (0 : Int) ≤ 2147483647)) := ⟨hb, by omega⟩
  exact lv_if_lt C.1 C.2.1 hdg ht (fun h => kt ((iI_lt hb).mp h)) (fun h => kf (Int.not_lt.mp (fun z => h ((iI_lt hb).mpr z))))
theorem z_icmp_ge (C : CallFix p m c cc nL s args Ts own) {x y : Int} {off : Int} {tgt : Nat} (hdg : decode cc pc = .ok (.if_icmp .ge off, 3)) (ht : (pc : Int) + off = (tgt : Int)) (hb : ((-2147483648 ≤ x ∧ x ≤ 2147483647) ∧ (-2147483648 ≤ y ∧ y ≤ 2147483647))) (kt : y ≤ x → W p l e R s m args below meth c H locs cells slots Q (F0 m tgt ls rest)) (kf : x < y → W p l e R s m args below meth c H locs cells slots Q (F0 m (pc + 3) ls rest)) : W p l e R s m args below meth c H locs cells slots Q (F0 m pc ls (.int (iI y) :: .int (iI x) :: rest)) := by
  exact lv_icmp_ge C.1 C.2.1 hdg ht (fun h => kt ((iI_le ⟨hb.2, hb.1⟩).mp h)) (fun h => kf (Int.not_le.mp (fun z => h ((iI_le ⟨hb.2, hb.1⟩).mpr z))))
theorem z_if_ge (C : CallFix p m c cc nL s args Ts own) {x : Int} {off : Int} {tgt : Nat} (hdg : decode cc pc = .ok (.ifCond .ge off, 3)) (ht : (pc : Int) + off = (tgt : Int)) (hb : (-2147483648 ≤ x ∧ x ≤ 2147483647)) (kt : 0 ≤ x → W p l e R s m args below meth c H locs cells slots Q (F0 m tgt ls rest)) (kf : x < 0 → W p l e R s m args below meth c H locs cells slots Q (F0 m (pc + 3) ls rest)) : W p l e R s m args below meth c H locs cells slots Q (F0 m pc ls (.int (iI x) :: rest)) := by
  have hb : ((-2147483648 ≤ x ∧ x ≤ 2147483647) ∧ ((-2147483648 : Int) ≤ 0 ∧ (0 : Int) ≤ 2147483647)) := ⟨hb, by omega⟩
  exact lv_if_ge C.1 C.2.1 hdg ht (fun h => kt ((iI_le ⟨hb.2, hb.1⟩).mp h)) (fun h => kf (Int.not_le.mp (fun z => h ((iI_le ⟨hb.2, hb.1⟩).mpr z))))
theorem z_icmp_gt (C : CallFix p m c cc nL s args Ts own) {x y : Int} {off : Int} {tgt : Nat} (hdg : decode cc pc = .ok (.if_icmp .gt off, 3)) (ht : (pc : Int) + off = (tgt : Int)) (hb : ((-2147483648 ≤ x ∧ x ≤ 2147483647) ∧ (-2147483648 ≤ y ∧ y ≤ 2147483647))) (kt : y < x → W p l e R s m args below meth c H locs cells slots Q (F0 m tgt ls rest)) (kf : x ≤ y → W p l e R s m args below meth c H locs cells slots Q (F0 m (pc + 3) ls rest)) : W p l e R s m args below meth c H locs cells slots Q (F0 m pc ls (.int (iI y) :: .int (iI x) :: rest)) := by
  exact lv_icmp_gt C.1 C.2.1 hdg ht (fun h => kt ((iI_lt ⟨hb.2, hb.1⟩).mp h)) (fun h => kf (Int.not_lt.mp (fun z => h ((iI_lt ⟨hb.2, hb.1⟩).mpr z))))
theorem z_if_gt (C : CallFix p m c cc nL s args Ts own) {x : Int} {off : Int} {tgt : Nat} (hdg : decode cc pc = .ok (.ifCond .gt off, 3)) (ht : (pc : Int) + off = (tgt : Int)) (hb : (-2147483648 ≤ x ∧ x ≤ 2147483647)) (kt : 0 < x → W p l e R s m args below meth c H locs cells slots Q (F0 m tgt ls rest)) (kf : x ≤ 0 → W p l e R s m args below meth c H locs cells slots Q (F0 m (pc + 3) ls rest)) : W p l e R s m args below meth c H locs cells slots Q (F0 m pc ls (.int (iI x) :: rest)) := by
  have hb : ((-2147483648 ≤ x ∧ x ≤ 2147483647) ∧ ((-2147483648 : Int) ≤ 0 ∧ (0 : Int) ≤ 2147483647)) := ⟨hb, by omega⟩
  exact lv_if_gt C.1 C.2.1 hdg ht (fun h => kt ((iI_lt ⟨hb.2, hb.1⟩).mp h)) (fun h => kf (Int.not_lt.mp (fun z => h ((iI_lt ⟨hb.2, hb.1⟩).mpr z))))
theorem z_icmp_le (C : CallFix p m c cc nL s args Ts own) {x y : Int} {off : Int} {tgt : Nat} (hdg : decode cc pc = .ok (.if_icmp .le off, 3)) (ht : (pc : Int) + off = (tgt : Int)) (hb : ((-2147483648 ≤ x ∧ x ≤ 2147483647) ∧ (-2147483648 ≤ y ∧ y ≤ 2147483647))) (kt : x ≤ y → W p l e R s m args below meth c H locs cells slots Q (F0 m tgt ls rest)) (kf : y < x → W p l e R s m args below meth c H locs cells slots Q (F0 m (pc + 3) ls rest)) : W p l e R s m args below meth c H locs cells slots Q (F0 m pc ls (.int (iI y) :: .int (iI x) :: rest)) := by
  exact lv_icmp_le C.1 C.2.1 hdg ht (fun h => kt ((iI_le hb).mp h)) (fun h => kf (Int.not_le.mp (fun z => h ((iI_le hb).mpr z))))
theorem z_if_le (C : CallFix p m c cc nL s args Ts own) {x : Int} {off : Int} {tgt : Nat} (hdg : decode cc pc = .ok (.ifCond .le off, 3)) (ht : (pc : Int) + off = (tgt : Int)) (hb : (-2147483648 ≤ x ∧ x ≤ 2147483647)) (kt : x ≤ 0 → W p l e R s m args below meth c H locs cells slots Q (F0 m tgt ls rest)) (kf : 0 < x → W p l e R s m args below meth c H locs cells slots Q (F0 m (pc + 3) ls rest)) : W p l e R s m args below meth c H locs cells slots Q (F0 m pc ls (.int (iI x) :: rest)) := by
  have hb : ((-2147483648 ≤ x ∧ x ≤ 2147483647) ∧ ((-2147483648 : Int) ≤ 0 ∧ (0 : Int) ≤ 2147483647)) := ⟨hb, by omega⟩
  exact lv_if_le C.1 C.2.1 hdg ht (fun h => kt ((iI_le hb).mp h)) (fun h => kf (Int.not_le.mp (fun z => h ((iI_le hb).mpr z))))
def lI (z : Int) : Int64 := Int64.ofInt z
theorem lI_toInt {z : Int} (h1 : -9223372036854775808 ≤ z) (h2 : z ≤ 9223372036854775807) : (lI z).toInt = z := Int64.toInt_ofInt_of_le (by omega) (by omega)
theorem lI_of {z : Int} (h : -2147483648 ≤ z ∧ z ≤ 2147483647) : (iI z).toInt64 = lI z := by
  apply Int64.toInt_inj.mp
  rw [Int32.toInt_toInt64, iI_toInt h.1 h.2, lI_toInt (by omega) (by omega)]
theorem lI_add (a b : Int) : lI a + lI b = lI (a + b) := (Int64.ofInt_add a b).symm
theorem lI_mul (a b : Int) : lI a * lI b = lI (a * b) := (Int64.ofInt_mul a b).symm
theorem z_i2l (C : CallFix p m c cc nL s args Ts own) {x : Int} (hdg : decode cc pc = .ok (.i2l, 1)) (hb : (-2147483648 ≤ x ∧ x ≤ 2147483647)) (k : W p l e R s m args below meth c H locs cells slots Q (F0 m (pc + 1) ls (.long (lI x) :: rest))) : W p l e R s m args below meth c H locs cells slots Q (F0 m pc ls (.int (iI x) :: rest)) := lv_i2l C.1 C.2.1 hdg (lI_of hb) k
theorem z_lcmp_ge (C : CallFix p m c cc nL s args Ts own) {x y : Int} {off : Int} {tgt : Nat} (hdg0 : decode cc pc = .ok (.lcmp, 1)) (hdg : decode cc (pc + 1) = .ok (.ifCond .ge off, 3)) (ht : ((pc + 1 : Nat) : Int) + off = (tgt : Int)) (hb : ((-9223372036854775808 ≤ x ∧ x ≤ 9223372036854775807) ∧ (-9223372036854775808 ≤ y ∧ y ≤ 9223372036854775807))) (kt : y ≤ x → W p l e R s m args below meth c H locs cells slots Q (F0 m tgt ls rest)) (kf : x < y → W p l e R s m args below meth c H locs cells slots Q (F0 m (pc + 1 + 3) ls rest)) : W p l e R s m args below meth c H locs cells slots Q (F0 m pc ls (.long (lI y) :: .long (lI x) :: rest)) := by
  have hiff : ∀ P : Prop, ((lI x).toInt = x → (lI y).toInt = y → P) → P := fun P h => h (lI_toInt hb.1.1 hb.1.2) (lI_toInt hb.2.1 hb.2.2)
  refine W.lcmp C.1 C.2.1 hdg0 (lv_if_ge C.1 C.2.1 hdg ht (fun h => kt ?_) (fun h => kf ?_))
  · have h := (lg_cmp_ge _ _).mp h
    rw [Int64.le_iff_toInt_le, lI_toInt hb.1.1 hb.1.2, lI_toInt hb.2.1 hb.2.2] at h
    exact h
  · have h : ¬ _ := fun z => h ((lg_cmp_ge _ _).mpr z)
    rw [Int64.le_iff_toInt_le, lI_toInt hb.1.1 hb.1.2, lI_toInt hb.2.1 hb.2.2] at h
    exact Int.not_le.mp h
theorem z_lcmp_le (C : CallFix p m c cc nL s args Ts own) {x y : Int} {off : Int} {tgt : Nat} (hdg0 : decode cc pc = .ok (.lcmp, 1)) (hdg : decode cc (pc + 1) = .ok (.ifCond .le off, 3)) (ht : ((pc + 1 : Nat) : Int) + off = (tgt : Int)) (hb : ((-9223372036854775808 ≤ x ∧ x ≤ 9223372036854775807) ∧ (-9223372036854775808 ≤ y ∧ y ≤ 9223372036854775807))) (kt : x ≤ y → W p l e R s m args below meth c H locs cells slots Q (F0 m tgt ls rest)) (kf : y < x → W p l e R s m args below meth c H locs cells slots Q (F0 m (pc + 1 + 3) ls rest)) : W p l e R s m args below meth c H locs cells slots Q (F0 m pc ls (.long (lI y) :: .long (lI x) :: rest)) := by
  have hiff : ∀ P : Prop, ((lI x).toInt = x → (lI y).toInt = y → P) → P := fun P h => h (lI_toInt hb.1.1 hb.1.2) (lI_toInt hb.2.1 hb.2.2)
  refine W.lcmp C.1 C.2.1 hdg0 (lv_if_le C.1 C.2.1 hdg ht (fun h => kt ?_) (fun h => kf ?_))
  · have h := (lg_cmp_le _ _).mp h
    rw [Int64.le_iff_toInt_le, lI_toInt hb.1.1 hb.1.2, lI_toInt hb.2.1 hb.2.2] at h
    exact h
  · have h : ¬ _ := fun z => h ((lg_cmp_le _ _).mpr z)
    rw [Int64.le_iff_toInt_le, lI_toInt hb.1.1 hb.1.2, lI_toInt hb.2.1 hb.2.2] at h
    exact Int.not_le.mp h
theorem z_lcmp_gt (C : CallFix p m c cc nL s args Ts own) {x y : Int} {off : Int} {tgt : Nat} (hdg0 : decode cc pc = .ok (.lcmp, 1)) (hdg : decode cc (pc + 1) = .ok (.ifCond .gt off, 3)) (ht : ((pc + 1 : Nat) : Int) + off = (tgt : Int)) (hb : ((-9223372036854775808 ≤ x ∧ x ≤ 9223372036854775807) ∧ (-9223372036854775808 ≤ y ∧ y ≤ 9223372036854775807))) (kt : y < x → W p l e R s m args below meth c H locs cells slots Q (F0 m tgt ls rest)) (kf : x ≤ y → W p l e R s m args below meth c H locs cells slots Q (F0 m (pc + 1 + 3) ls rest)) : W p l e R s m args below meth c H locs cells slots Q (F0 m pc ls (.long (lI y) :: .long (lI x) :: rest)) := by
  have hiff : ∀ P : Prop, ((lI x).toInt = x → (lI y).toInt = y → P) → P := fun P h => h (lI_toInt hb.1.1 hb.1.2) (lI_toInt hb.2.1 hb.2.2)
  refine W.lcmp C.1 C.2.1 hdg0 (lv_if_gt C.1 C.2.1 hdg ht (fun h => kt ?_) (fun h => kf ?_))
  · have h := (lg_cmp_gt _ _).mp h
    rw [Int64.lt_iff_toInt_lt, lI_toInt hb.1.1 hb.1.2, lI_toInt hb.2.1 hb.2.2] at h
    exact h
  · have h : ¬ _ := fun z => h ((lg_cmp_gt _ _).mpr z)
    rw [Int64.lt_iff_toInt_lt, lI_toInt hb.1.1 hb.1.2, lI_toInt hb.2.1 hb.2.2] at h
    exact Int.not_lt.mp h
theorem z_lcmp_lt (C : CallFix p m c cc nL s args Ts own) {x y : Int} {off : Int} {tgt : Nat} (hdg0 : decode cc pc = .ok (.lcmp, 1)) (hdg : decode cc (pc + 1) = .ok (.ifCond .lt off, 3)) (ht : ((pc + 1 : Nat) : Int) + off = (tgt : Int)) (hb : ((-9223372036854775808 ≤ x ∧ x ≤ 9223372036854775807) ∧ (-9223372036854775808 ≤ y ∧ y ≤ 9223372036854775807))) (kt : x < y → W p l e R s m args below meth c H locs cells slots Q (F0 m tgt ls rest)) (kf : y ≤ x → W p l e R s m args below meth c H locs cells slots Q (F0 m (pc + 1 + 3) ls rest)) : W p l e R s m args below meth c H locs cells slots Q (F0 m pc ls (.long (lI y) :: .long (lI x) :: rest)) := by
  have hiff : ∀ P : Prop, ((lI x).toInt = x → (lI y).toInt = y → P) → P := fun P h => h (lI_toInt hb.1.1 hb.1.2) (lI_toInt hb.2.1 hb.2.2)
  refine W.lcmp C.1 C.2.1 hdg0 (lv_if_lt C.1 C.2.1 hdg ht (fun h => kt ?_) (fun h => kf ?_))
  · have h := (lg_cmp_lt _ _).mp h
    rw [Int64.lt_iff_toInt_lt, lI_toInt hb.1.1 hb.1.2, lI_toInt hb.2.1 hb.2.2] at h
    exact h
  · have h : ¬ _ := fun z => h ((lg_cmp_lt _ _).mpr z)
    rw [Int64.lt_iff_toInt_lt, lI_toInt hb.1.1 hb.1.2, lI_toInt hb.2.1 hb.2.2] at h
    exact Int.not_lt.mp h
theorem z_iald (C : CallFix p m c cc nL s args Ts own) (hK : KG G A s s.heap) (hW : Wd G A H0 ws H locs) (q0 : Nat) {n : Nat} {g : Int → Int} {z : Int} (ha : ws[q0]? = some (a, .inl (G.2.1 0, n, .inl (iA g)))) (hn : n ≤ 2147483647) (hz : 0 ≤ z ∧ z < n) (hdg : decode cc pc = .ok (.iaload, 1)) (k : W p l e R s m args below meth c H locs cells slots Q (F0 m (pc + 1) ls (.int (iI (g z)) :: rest))) : W p l e R s m args below meth c H locs cells slots Q (F0 m pc ls (.int (iI z) :: .ref a :: rest)) :=
  va_iald C.1 C.2.1 hK.1 hW.1 q0 0 ha rfl (iI_in hz hn) hdg (by rw [iA_get g hz.1 (by omega)]; exact k)
theorem z_iast (C : CallFix p m c cc nL s args Ts own) (hK : KG G A s s.heap) (hW : Wd G A H0 ws H locs) (q0 : Nat) {n : Nat} {g : Int → Int} {z x : Int} (ha : ws[q0]? = some (a, .inl (G.2.1 0, n, .inl (iA g)))) (hn : n ≤ 2147483647) (hz : 0 ≤ z ∧ z < n) (hdg : decode cc pc = .ok (.iastore, 1)) (k : ∀ (H1 : Heap) (locs1 : List Loc), Wd G A H0 (ws.set q0 (a, .inl (G.2.1 0, n, .inl (iA (up g z x))))) H1 locs1 → W p l e R s m args below meth c H1 locs1 cells slots Q (F0 m (pc + 1) ls rest)) : W p l e R s m args below meth c H locs cells slots Q (F0 m pc ls (.int (iI x) :: .int (iI z) :: .ref a :: rest)) :=
  va_iast C.1 C.2.1 hK.1 hW.1 hW.2.1 hW.2.2 q0 0 ha rfl (iI_in hz hn) hdg (fun H1 locs1 h1 h2 h3 => k H1 locs1 (by rw [iA_set g x hz.1 (by omega)] at h1 h2; exact ⟨h1, h2, h3⟩))
theorem z_bald (C : CallFix p m c cc nL s args Ts own) (hK : KG G A s s.heap) (hW : Wd G A H0 ws H locs) (q0 : Nat) {n : Nat} {g : Int → Int} {z : Int} (ha : ws[q0]? = some (a, .inl (G.2.1 1, n, .inl (iA g)))) (hn : n ≤ 2147483647) (hz : 0 ≤ z ∧ z < n) (hdg : decode cc pc = .ok (.baload, 1)) (k : W p l e R s m args below meth c H locs cells slots Q (F0 m (pc + 1) ls (.int (iI (g z)) :: rest))) : W p l e R s m args below meth c H locs cells slots Q (F0 m pc ls (.int (iI z) :: .ref a :: rest)) :=
  va_bald C.1 C.2.1 hK.1 hW.1 q0 1 ha rfl (iI_in hz hn) hdg (by rw [iA_get g hz.1 (by omega)]; exact k)
theorem z_bast (C : CallFix p m c cc nL s args Ts own) (hK : KG G A s s.heap) (hW : Wd G A H0 ws H locs) (q0 : Nat) {n : Nat} {g : Int → Int} {z x : Int} (ha : ws[q0]? = some (a, .inl (G.2.1 1, n, .inl (iA g)))) (hn : n ≤ 2147483647) (hz : 0 ≤ z ∧ z < n) (hx : vp_nar .byte (iI x) = iI x) (hdg : decode cc pc = .ok (.bastore, 1)) (k : ∀ (H1 : Heap) (locs1 : List Loc), Wd G A H0 (ws.set q0 (a, .inl (G.2.1 1, n, .inl (iA (up g z x))))) H1 locs1 → W p l e R s m args below meth c H1 locs1 cells slots Q (F0 m (pc + 1) ls rest)) : W p l e R s m args below meth c H locs cells slots Q (F0 m pc ls (.int (iI x) :: .int (iI z) :: .ref a :: rest)) :=
  va_bast C.1 C.2.1 hK.1 hW.1 hW.2.1 hW.2.2 q0 1 ha rfl (iI_in hz hn) hdg (fun H1 locs1 h1 h2 h3 => k H1 locs1 (by rw [hx, iA_set g x hz.1 (by omega)] at h1 h2; exact ⟨h1, h2, h3⟩))
theorem z_alen (C : CallFix p m c cc nL s args Ts own) (hK : KG G A s s.heap) (hW : Wd G A H0 ws H locs) (q0 t0 : Nat) {n : Nat} {x : (Nat → Int32) ⊕ (Nat → Int64) ⊕ (Nat → UInt32) ⊕ (Nat → UInt64) ⊕ (Nat → Option Nat)} {ty : FieldType} (ha : ws[q0]? = some (a, .inl (G.2.1 t0, (n, x)))) (ht : (tysG G)[t0]? = some (G.2.1 t0, ty)) (hdg : decode cc pc = .ok (.arraylength, 1)) (k : W p l e R s m args below meth c H locs cells slots Q (F0 m (pc + 1) ls (.int (iI (n : Int)) :: rest))) : W p l e R s m args below meth c H locs cells slots Q (F0 m pc ls (.ref a :: rest)) :=
  va_alen C.1 C.2.1 hK.1 hW.1 q0 t0 ha ht (iI_ofNat n) hdg k
theorem z_aaldq (C : CallFix p m c cc nL s args Ts own) (hK : KG G A s s.heap) (hW : Wd G A H0 ws H locs) (q0 t0 : Nat) {n : Nat} {f : Nat → Option Nat} {z : Int} {E : String} (ha : ws[q0]? = some (a, .inl (G.2.1 t0, n, .inr (.inr (.inr (.inr f)))))) (ht : (tysG G)[t0]? = some (G.2.1 t0, .object E)) (hn : n ≤ 2147483647) (hz : 0 ≤ z ∧ z < n) (hdg : decode cc pc = .ok (.aaload, 1)) (k : W p l e R s m args below meth c H locs cells slots Q (F0 m (pc + 1) ls (va_rf (f z.toNat) :: rest))) : W p l e R s m args below meth c H locs cells slots Q (F0 m pc ls (.int (iI z) :: .ref a :: rest)) :=
  va_aldq C.1 C.2.1 hK.1 hW.1 q0 t0 ha ht (iI_in hz hn) hdg (by rw [iI_tn hz.1 (by omega)]; exact k)
theorem z_get (C : CallFix p m c cc nL s args Ts own) (hK : KG G A s s.heap) (hW : Wd G A H0 ws H locs) {ref D : String} {T : u_T} {N ci index : Nat} (hin : ∀ w ∈ u_ws D T N, w ∈ Ts) (q0 : Nat) {fs : List Value} (he : ws[q0]? = some (a, .inr (ci, fs))) (hc : vwCl[ci]? = some (D, T, N)) (k : Nat) (hk : k < N) (hlink : (Cond.fieldLink own index ref (T k).2.1 (T k).2.2.1).before args s = true) (hsame : ∀ x, s.fieldFound? (T k).1 (T k).2.1 (T k).2.2.1 = some x → s.fieldFound? ref (T k).2.1 (T k).2.2.1 = some x) {v : Value} (hv : fs[k]? = some v) (hdg : decode cc pc = .ok (.getfield index, 3)) (kk : W p l e R s m args below meth c H locs cells slots Q (F0 m (pc + 3) ls (v :: rest))) : W p l e R s m args below meth c H locs cells slots Q (F0 m pc ls (.ref a :: rest)) :=
  va_get C.1 C.2.1 C.2.2.2.2 hin C.2.2.2.1 hK.1 hW.1 q0 he hc k hk hlink hsame hv hdg kk
theorem z_getN (C : CallFix p m c cc nL s args Ts own) (hK : KG G A s s.heap) (hW : Wd G A H0 ws H locs) {ref D host : String} {T : u_T} {N ci index : Nat} (hin : ∀ w ∈ u_ws D T N, w ∈ Ts) (q0 : Nat) {fs : List Value} (he : ws[q0]? = some (a, .inr (ci, fs))) (hc : vwCl[ci]? = some (D, T, N)) (k : Nat) (hk : k < N) (hlink : va_Nw (.fieldLinkNest own index ref (T k).2.1 (T k).2.2.1 host) s) (hsame : ∀ x, s.fieldFound? (T k).1 (T k).2.1 (T k).2.2.1 = some x → s.fieldFound? ref (T k).2.1 (T k).2.2.1 = some x) {v : Value} (hv : fs[k]? = some v) (hdg : decode cc pc = .ok (.getfield index, 3)) (kk : W p l e R s m args below meth c H locs cells slots Q (F0 m (pc + 3) ls (v :: rest))) : W p l e R s m args below meth c H locs cells slots Q (F0 m pc ls (.ref a :: rest)) :=
  va_getN C.1 C.2.1 C.2.2.2.2 hin C.2.2.2.1 hK.1 hW.1 q0 he hc k hk (va_Nw.use rfl hlink) hsame hv hdg kk
theorem z_put (C : CallFix p m c cc nL s args Ts own) (hK : KG G A s s.heap) (hW : Wd G A H0 ws H locs) {ref D : String} {T : u_T} {N ci index : Nat} (hin : ∀ w ∈ u_ws D T N, w ∈ Ts) (ty0 : Nat → FieldType) (hty : ∀ k, k < N → parseFieldDescriptor (T k).2.2.1 = some (ty0 k)) (hnm : ∀ a, a < N → ∀ b, b < N → a ≠ b → (T a).2.1 ≠ (T b).2.1) (q0 : Nat) {fs : List Value} (he : ws[q0]? = some (a, .inr (ci, fs))) (hc : vwCl[ci]? = some (D, T, N)) (k : Nat) (hk : k < N) (hlink : (Cond.fieldLink own index ref (T k).2.1 (T k).2.2.1).before args s = true) (hsame : ∀ x, s.fieldFound? (T k).1 (T k).2.1 (T k).2.2.1 = some x → s.fieldFound? ref (T k).2.1 (T k).2.2.1 = some x) (hfin : (T k).2.2.2 = false) {v : Value} (hn : narrow (ty0 k) v = v) (hfit : fits (ty0 k) v = true) (hl : k < fs.length) (hdg : decode cc pc = .ok (.putfield index, 3)) (kk : ∀ (H1 : Heap) (locs1 : List Loc), Wd G A H0 (ws.set q0 (a, .inr (ci, fs.set k v))) H1 locs1 → W p l e R s m args below meth c H1 locs1 cells slots Q (F0 m (pc + 3) ls rest)) : W p l e R s m args below meth c H locs cells slots Q (F0 m pc ls (v :: .ref a :: rest)) :=
  va_put C.1 C.2.1 C.2.2.2.2 hin ty0 hty hnm C.2.2.2.1 hK.1 hW.1 hW.2.1 hW.2.2 q0 he hc k hk hlink hsame hfin (hty k hk) hn hfit hl hdg (fun H1 locs1 h1 h2 h3 => kk H1 locs1 ⟨h1, h2, h3⟩)
theorem z_putN (C : CallFix p m c cc nL s args Ts own) (hK : KG G A s s.heap) (hW : Wd G A H0 ws H locs) {ref D host : String} {T : u_T} {N ci index : Nat} (hin : ∀ w ∈ u_ws D T N, w ∈ Ts) (ty0 : Nat → FieldType) (hty : ∀ k, k < N → parseFieldDescriptor (T k).2.2.1 = some (ty0 k)) (hnm : ∀ a, a < N → ∀ b, b < N → a ≠ b → (T a).2.1 ≠ (T b).2.1) (q0 : Nat) {fs : List Value} (he : ws[q0]? = some (a, .inr (ci, fs))) (hc : vwCl[ci]? = some (D, T, N)) (k : Nat) (hk : k < N) (hlink : va_Nw (.fieldLinkNest own index ref (T k).2.1 (T k).2.2.1 host) s) (hsame : ∀ x, s.fieldFound? (T k).1 (T k).2.1 (T k).2.2.1 = some x → s.fieldFound? ref (T k).2.1 (T k).2.2.1 = some x) (hfin : (T k).2.2.2 = false) {v : Value} (hn : narrow (ty0 k) v = v) (hfit : fits (ty0 k) v = true) (hl : k < fs.length) (hdg : decode cc pc = .ok (.putfield index, 3)) (kk : ∀ (H1 : Heap) (locs1 : List Loc), Wd G A H0 (ws.set q0 (a, .inr (ci, fs.set k v))) H1 locs1 → W p l e R s m args below meth c H1 locs1 cells slots Q (F0 m (pc + 3) ls rest)) : W p l e R s m args below meth c H locs cells slots Q (F0 m pc ls (v :: .ref a :: rest)) :=
  va_putN C.1 C.2.1 C.2.2.2.2 hin ty0 hty hnm C.2.2.2.1 hK.1 hW.1 hW.2.1 hW.2.2 q0 he hc k hk (va_Nw.use rfl hlink) hsame hfin (hty k hk) hn hfit hl hdg (fun H1 locs1 h1 h2 h3 => kk H1 locs1 ⟨h1, h2, h3⟩)
theorem z_mmax (C : CallFix p m c cc nL s args Ts own) (hnl : ls.size = nL) {index : Nat} (hlink : (Cond.methodLink own index Lib.Math.max.name).before args s = true) (hstat : (Cond.static Lib.Math.max.name).before args s = true) (hini : (Cond.initialized "java/lang/Math").before args s = true) (hcode : (Cond.code Lib.Math.max.name Lib.Math.max.code 2 (some .int)).before args s = true)
    (hframes : 1 ≤ R.frames) (hlocals : (rest.map fun v => v.category).sum + 13 ≤ R.locals) (hc : cells ≤ R.cells) (hs : slots ≤ R.slots) {x y : Int} (hb : ((-2147483648 ≤ x ∧ x ≤ 2147483647) ∧ (-2147483648 ≤ y ∧ y ≤ 2147483647))) (hdg : decode cc pc = .ok (.invokestatic index, 3)) (kk : W p l e R s m args below meth c H locs cells slots Q (F0 m (pc + 3) ls (.int (iI (max x y)) :: rest))) : W p l e R s m args below meth c H locs cells slots Q (F0 m pc ls (.int (iI y) :: .int (iI x) :: rest)) := by
  refine va_mmax C.1 C.2.1 (C.2.2.1.trans hnl.symm) C.2.2.2.1 hlink hstat hini hcode hframes hlocals hc hs hdg ?_
  by_cases h : x < y
  · rw [if_pos ((iI_lt hb).mpr h)]
    rw [show max x y = y by omega] at kk
    exact kk
  · rw [if_neg (fun z => h ((iI_lt hb).mp z))]
    rw [show max x y = x by omega] at kk
    exact kk
theorem z_mmin (C : CallFix p m c cc nL s args Ts own) (hnl : ls.size = nL) {index : Nat} (hlink : (Cond.methodLink own index Lib.Math.min.name).before args s = true) (hstat : (Cond.static Lib.Math.min.name).before args s = true) (hini : (Cond.initialized "java/lang/Math").before args s = true) (hcode : (Cond.code Lib.Math.min.name Lib.Math.min.code 2 (some .int)).before args s = true)
    (hframes : 1 ≤ R.frames) (hlocals : (rest.map fun v => v.category).sum + 13 ≤ R.locals) (hc : cells ≤ R.cells) (hs : slots ≤ R.slots) {x y : Int} (hb : ((-2147483648 ≤ x ∧ x ≤ 2147483647) ∧ (-2147483648 ≤ y ∧ y ≤ 2147483647))) (hdg : decode cc pc = .ok (.invokestatic index, 3)) (kk : W p l e R s m args below meth c H locs cells slots Q (F0 m (pc + 3) ls (.int (iI (min x y)) :: rest))) : W p l e R s m args below meth c H locs cells slots Q (F0 m pc ls (.int (iI y) :: .int (iI x) :: rest)) := by
  refine va_mmin C.1 C.2.1 (C.2.2.1.trans hnl.symm) C.2.2.2.1 hlink hstat hini hcode hframes hlocals hc hs hdg ?_
  by_cases h : y < x
  · rw [if_pos ((iI_lt ⟨hb.2, hb.1⟩).mpr h)]
    rw [show min x y = y by omega] at kk
    exact kk
  · rw [if_neg (fun z => h ((iI_lt ⟨hb.2, hb.1⟩).mp z))]
    rw [show min x y = x by omega] at kk
    exact kk
theorem z_ldc (C : CallFix p m c cc nL s args Ts own) {index : Nat} {v : Int32} {z : Int} (hconst : (Jvm.Cond.constant own index v).before args s = true) (hv : v = iI z) (hdg : decode cc pc = .ok (.ldc index, 2)) (k : W p l e R s m args below meth c H locs cells slots Q (F0 m (pc + 2) ls (.int (iI z) :: rest))) : W p l e R s m args below meth c H locs cells slots Q (F0 m pc ls rest) := by
  subst hv
  exact W.ldc C.1 C.2.1 C.2.2.2.1 hconst rfl hdg k
theorem z_ldc2 (C : CallFix p m c cc nL s args Ts own) {index : Nat} {v : Int64} {z : Int} (hconst : (Jvm.Cond.constantLong own index v).before args s = true) (hv : v = lI z) (hdg : decode cc pc = .ok (.ldc2_w index, 3)) (k : W p l e R s m args below meth c H locs cells slots Q (F0 m (pc + 3) ls (.long (lI z) :: rest))) : W p l e R s m args below meth c H locs cells slots Q (F0 m pc ls rest) := by
  subst hv
  exact W.ldc2 C.1 C.2.1 C.2.2.2.1 hconst rfl hdg k
theorem z_call {S : Type} {post : Option Value → S → Prop} {w' : S → va_W} {wc : va_W} {av : Array Value} {st0 : List Value} (hr : va_Run p l e R s m args below meth c H locs cells slots 0 0 (F0 m pc ls st0) rest (zQ G (va_A wc H.size) post w' av) (va_A wc H.size)) (hW : Wd G A H0 ws H locs) (hA : ∀ q, H0.size ≤ q → A q) (is : List Nat) (hC : is.map (fun i => ws[i]?) = wc.map some) (hn : va_nd is = true) (ha : ∀ u, (w' u).map Prod.fst = wc.map Prod.fst)
    (kk : ∀ (r : Option Value) (u : S) (H1 : Heap) (locs1 : List Loc), post r u → Wd G A H0 (zv_re ws is (w' u)) H1 locs1 → W p l e R s m args below meth c H1 locs1 cells slots Q (F0 m (pc + 3) ls (r.toList ++ rest))) : W p l e R s m args below meth c H locs cells slots Q (F0 m pc ls st0) := by
  intro T hT X
  obtain ⟨v, st₀, t, T', L, h0, X', hL, e1, e2, ⟨⟨r, u, hv, hp, hb⟩, hz, hk⟩, st⟩ := hr T hT X
  cases hv
  rw [h0] at hz hk
  have hF := va_free hW.2.1 hW.2.2 hA is hC
  have hJ := zv_join hW.1 hW.2.1 is hC hn (ha u) hk hb
  have hS := hW.2.2
  obtain ⟨t2, a1, b1⟩ := kk v u t.heap (locs ++ L) hp ⟨hJ.1, hJ.2, Nat.le_trans hS.1 hz, fun q h1 h2 => by
      rw [hk q (Nat.lt_of_lt_of_le h1 hS.1) (fun z => h2 (hF q z))]
      exact hS.2.1 q h1 h2, fun q hq => by
      rcases List.mem_append.mp hq with h | h
      · exact hS.2.2 q h
      · exact hF _ (hL q h)⟩ T' e1 X'
  exact ⟨t2, st t2 a1, b1⟩
theorem z_callR {post : Option Value → Prop} {av : Array Value} {st0 : List Value} (hr : va_Run p l e R s m args below meth c H locs cells slots 0 0 (F0 m pc ls st0) rest (zR post av) (fun _ => False))
    (kk : ∀ (r : Option Value), post r → W p l e R s m args below meth c H locs cells slots Q (F0 m (pc + 3) ls (r.toList ++ rest))) : W p l e R s m args below meth c H locs cells slots Q (F0 m pc ls st0) := by
  intro T hT X
  obtain ⟨v, st₀, t, T', L, h0, X', hL, e1, e2, ⟨r, hv, hp, hh⟩, st⟩ := hr T hT X
  cases hv
  obtain ⟨t2, a1, b1⟩ := kk v hp T' (by rw [e1, hh, h0]) (Stand.forget X' (fun q h => (hL q h).elim))
  exact ⟨t2, st t2 a1, b1⟩
/-- what a call's start wants, out of the caller's world -/
theorem z_preV (hK : KG G A s s.heap) (hW : Wd G A s.heap ws H locs) (hA : ∀ q, s.heap.size ≤ q → A q) {wc : va_W} (is : List Nat) (hC : is.map (fun i => ws[i]?) = wc.map some) (hn : va_nd is = true) {ci q0 : Nat} {cr : vw_C} {fs : List Value} (hc : vwCl[ci]? = some cr) (he : ws[q0]? = some (a, .inr (ci, fs))) {As : List Value} : PreV s H cr.1 a (zPre G (.ref a :: As) wc H.size) As :=
  ⟨zPre.blind, va_recv hK.1 hW.1 hc he, fun U hU hWm => ⟨rfl, by rw [hU], by rw [hU]; exact va_P.of_map hW.1 is hC, hK.call hW.2.2 (va_free hW.2.1 hW.2.2 hA is hC) hWm hU, (hW.2.1.sub is hn hC).weaken (fun _ _ _ _ => trivial)⟩⟩
theorem z_preS (hK : KG G A s s.heap) (hW : Wd G A s.heap ws H locs) (hA : ∀ q, s.heap.size ≤ q → A q) {wc : va_W} (is : List Nat) (hC : is.map (fun i => ws[i]?) = wc.map some) (hn : va_nd is = true) {As : List Value} : PreS s H (zPre G As wc H.size) As :=
  ⟨zPre.blind, fun U hU hWm => ⟨rfl, by rw [hU], by rw [hU]; exact va_P.of_map hW.1 is hC, hK.call hW.2.2 (va_free hW.2.1 hW.2.2 hA is hC) hWm hU, (hW.2.1.sub is hn hC).weaken (fun _ _ _ _ => trivial)⟩⟩
theorem z_iret {S : Type} {post : Option Value → S → Prop} {w' : S → va_W} (C : CallFix p m c cc nL s args Ts own) {v : Int32} (hr : meth.sig.returnType = some .int) (hlocks : meth.locks = false) (hW : Wd G A s.heap ws H locs) (u : S) (hw : w' u = ws) (hp : post (some (.int v)) u) (hdg : decode cc pc = .ok (.ireturn, 1)) : W p l e R s m args below meth c H locs cells slots (MQ below (zQ G A post w') args s cells slots A) (F0 m pc ls [.int v]) :=
  W.iret C.1 C.2.1 hr (fun t ht _ => ⟨⟨_, u, rfl, hp, by rw [ht, hw]; exact hW.1⟩, hW.2.2.F ht⟩) hW.2.2.2.2 hdg hlocks
theorem z_iretR {post : Option Value → Prop} (C : CallFix p m c cc nL s args Ts own) {v : Int32} (hr : meth.sig.returnType = some .int) (hlocks : meth.locks = false) (hp : post (some (.int v))) (hdg : decode cc pc = .ok (.ireturn, 1)) : W p l e R s m args below meth c s.heap [] cells slots (MQ below (zR post) args s cells slots (fun _ => False)) (F0 m pc ls [.int v]) :=
  W.iret C.1 C.2.1 hr (fun t ht _ => ⟨_, rfl, hp, ht⟩) (fun q h => by cases h) hdg hlocks
theorem z_zret {S : Type} {post : Option Value → S → Prop} {w' : S → va_W} (C : CallFix p m c cc nL s args Ts own) {v : Int32} {ty : FieldType} (hr : meth.sig.returnType = some ty) (hnw : narrow ty (.int v) = .int v) (hlocks : meth.locks = false) (hW : Wd G A s.heap ws H locs) (u : S) (hw : w' u = ws) (hp : post (some (.int v)) u) (hdg : decode cc pc = .ok (.ireturn, 1)) : W p l e R s m args below meth c H locs cells slots (MQ below (zQ G A post w') args s cells slots A) (F0 m pc ls [.int v]) :=
  W.zret C.1 C.2.1 hr hnw (fun t ht _ => ⟨⟨_, u, rfl, hp, by rw [ht, hw]; exact hW.1⟩, hW.2.2.F ht⟩) hW.2.2.2.2 hdg hlocks
theorem z_zretR {post : Option Value → Prop} (C : CallFix p m c cc nL s args Ts own) {v : Int32} {ty : FieldType} (hr : meth.sig.returnType = some ty) (hnw : narrow ty (.int v) = .int v) (hlocks : meth.locks = false) (hp : post (some (.int v))) (hdg : decode cc pc = .ok (.ireturn, 1)) : W p l e R s m args below meth c s.heap [] cells slots (MQ below (zR post) args s cells slots (fun _ => False)) (F0 m pc ls [.int v]) :=
  W.zret C.1 C.2.1 hr hnw (fun t ht _ => ⟨_, rfl, hp, ht⟩) (fun q h => by cases h) hdg hlocks
theorem z_vret {S : Type} {post : Option Value → S → Prop} {w' : S → va_W} (C : CallFix p m c cc nL s args Ts own) (hr : meth.sig.returnType = none) (hlocks : meth.locks = false) (hW : Wd G A s.heap ws H locs) (u : S) (hw : w' u = ws) (hp : post none u) (hdg : decode cc pc = .ok (.return_, 1)) : W p l e R s m args below meth c H locs cells slots (MQ below (zQ G A post w') args s cells slots A) (F0 m pc ls []) :=
  W.vret C.1 C.2.1 hr (fun t ht _ => ⟨⟨_, u, rfl, hp, by rw [ht, hw]; exact hW.1⟩, hW.2.2.F ht⟩) hW.2.2.2.2 hdg hlocks
theorem z_vretR {post : Option Value → Prop} (C : CallFix p m c cc nL s args Ts own) (hr : meth.sig.returnType = none) (hlocks : meth.locks = false) (hp : post none) (hdg : decode cc pc = .ok (.return_, 1)) : W p l e R s m args below meth c s.heap [] cells slots (MQ below (zR post) args s cells slots (fun _ => False)) (F0 m pc ls []) :=
  W.vret C.1 C.2.1 hr (fun t ht _ => ⟨_, rfl, hp, ht⟩) (fun q h => by cases h) hdg hlocks
theorem z_lret {S : Type} {post : Option Value → S → Prop} {w' : S → va_W} (C : CallFix p m c cc nL s args Ts own) {v : Int64} (hr : meth.sig.returnType = some .long) (hlocks : meth.locks = false) (hW : Wd G A s.heap ws H locs) (u : S) (hw : w' u = ws) (hp : post (some (.long v)) u) (hdg : decode cc pc = .ok (.lreturn, 1)) : W p l e R s m args below meth c H locs cells slots (MQ below (zQ G A post w') args s cells slots A) (F0 m pc ls [.long v]) :=
  W.lret C.1 C.2.1 hr (fun t ht _ => ⟨⟨_, u, rfl, hp, by rw [ht, hw]; exact hW.1⟩, hW.2.2.F ht⟩) hW.2.2.2.2 hdg hlocks
theorem z_lretR {post : Option Value → Prop} (C : CallFix p m c cc nL s args Ts own) {v : Int64} (hr : meth.sig.returnType = some .long) (hlocks : meth.locks = false) (hp : post (some (.long v))) (hdg : decode cc pc = .ok (.lreturn, 1)) : W p l e R s m args below meth c s.heap [] cells slots (MQ below (zR post) args s cells slots (fun _ => False)) (F0 m pc ls [.long v]) :=
  W.lret C.1 C.2.1 hr (fun t ht _ => ⟨_, rfl, hp, ht⟩) (fun q h => by cases h) hdg hlocks
theorem z_aret {S : Type} {post : Option Value → S → Prop} {w' : S → va_W} (C : CallFix p m c cc nL s args Ts own) {v : Value} {rt : FieldType} (hr : meth.sig.returnType = some rt) (hrt : (∃ n, rt = .object n) ∨ ∃ t, rt = .array t) (hv : v = .null ∨ ∃ a, v = .ref a) (hlocks : meth.locks = false) (hW : Wd G A s.heap ws H locs) (u : S) (hw : w' u = ws) (hp : post (some v) u) (hdg : decode cc pc = .ok (.areturn, 1)) : W p l e R s m args below meth c H locs cells slots (MQ below (zQ G A post w') args s cells slots A) (F0 m pc ls [v]) :=
  W.aret C.1 C.2.1 hr hrt hv (fun t ht _ => ⟨⟨_, u, rfl, hp, by rw [ht, hw]; exact hW.1⟩, hW.2.2.F ht⟩) hW.2.2.2.2 hdg hlocks
theorem z_aretR {post : Option Value → Prop} (C : CallFix p m c cc nL s args Ts own) {v : Value} {rt : FieldType} (hr : meth.sig.returnType = some rt) (hrt : (∃ n, rt = .object n) ∨ ∃ t, rt = .array t) (hv : v = .null ∨ ∃ a, v = .ref a) (hlocks : meth.locks = false) (hp : post (some v)) (hdg : decode cc pc = .ok (.areturn, 1)) : W p l e R s m args below meth c s.heap [] cells slots (MQ below (zR post) args s cells slots (fun _ => False)) (F0 m pc ls [v]) :=
  W.aret C.1 C.2.1 hr hrt hv (fun t ht _ => ⟨_, rfl, hp, ht⟩) (fun q h => by cases h) hdg hlocks
end ZR
/-- every number of a row is an int -/
def BD (g : Int → Int) : Prop := ∀ j, -2147483648 ≤ g j ∧ g j ≤ 2147483647
theorem BD.up {g : Int → Int} {k x : Int} (h : BD g) (hx : -2147483648 ≤ x ∧ x ≤ 2147483647) : BD (up g k x) := fun j => by
  by_cases hj : j = k
  · subst hj
    rw [up_s]
    exact hx
  · rw [up_n g x hj]
    exact h j
theorem BD.cst {x : Int} (hx : -2147483648 ≤ x ∧ x ≤ 2147483647) : BD (fun _ => x) := fun _ => hx
/-- a method that writes nothing, from its entry -/
theorem MRc.start {l : Launch} {y : MethodName} {ws ws' : List Cond} {lev : Nat} {G : GG} {av : List Value} {w : va_W} {post : Option Value → Prop} {cc : ByteArray} {maxL : Nat} {ret : Option FieldType} {own : String}
    (hy : plainName y.cls = true) (hw : ws = Cond.code y cc maxL ret :: ws') (hown : y.cls = own) (hn : (lg_sl av).length ≤ maxL)
    (body : ∀ (p : Program) (e : Env) (s : State) (m : MethodId) (args : Array Value) (below : List Frame) (meth : Method) (c : Code) (A : Nat → Prop) (Q : State → Prop), CallFix p m c cc maxL s args ws own → KG G A s s.heap → Wd G A s.heap w s.heap [] → (∀ q, s.heap.size ≤ q → A q) → meth.sig.returnType = ret → meth.locks = false →
      Q = MQ below (zR post) args s 0 0 (fun _ => False) → ∀ ls, lv_has ls maxL (lv_args 0 av) → W p l e (rmL lev) s m args below meth c s.heap [] 0 0 Q (F0 m 0 ls [])) : MRc l y ws lev G av w post := by
  intro sz
  refine Met.ofW (cc := cc) (maxL := maxL) (ret := ret) hy hw ?_
  intro p e s m args below meth c s₁ B hml hv
  obtain ⟨rfl, hsz, hP, hK, hD0⟩ := hv
  subst hsz
  subst hown
  have hl := lv_entry av (n := maxL) hn
  rw [lg_entry_eq]
  exact body p e s m _ below meth c (va_A w s.heap.size) _ ⟨B.exec, B.bytes, hml, findClass_of_methodNamed B.named, atoms_spec (ws := ws) B.pre⟩ hK ⟨hP, hD0.self (sz := s.heap.size), va_S.rf⟩ (fun q h => Or.inr h) B.returns B.notSynchronized rfl _ hl
/-- a method that writes, from its entry -/
theorem MQc.start {l : Launch} {y : MethodName} {ws ws' : List Cond} {lev : Nat} {G : GG} {av : List Value} {w : va_W} {S : Type} {post : Option Value → S → Prop} {w' : S → va_W} {cc : ByteArray} {maxL : Nat} {ret : Option FieldType} {own : String}
    (hy : plainName y.cls = true) (hw : ws = Cond.code y cc maxL ret :: ws') (hown : y.cls = own) (hn : (lg_sl av).length ≤ maxL)
    (body : ∀ (p : Program) (e : Env) (s : State) (m : MethodId) (args : Array Value) (below : List Frame) (meth : Method) (c : Code) (A : Nat → Prop) (Q : State → Prop), CallFix p m c cc maxL s args ws own → KG G A s s.heap → Wd G A s.heap w s.heap [] → (∀ q, s.heap.size ≤ q → A q) → meth.sig.returnType = ret → meth.locks = false →
      Q = MQ below (zQ G A post w') args s 0 0 A → ∀ ls, lv_has ls maxL (lv_args 0 av) → W p l e (rmL lev) s m args below meth c s.heap [] 0 0 Q (F0 m 0 ls [])) : MQc l y ws lev G av w post w' := by
  intro sz
  refine Met.ofW (cc := cc) (maxL := maxL) (ret := ret) hy hw ?_
  intro p e s m args below meth c s₁ B hml hv
  obtain ⟨rfl, hsz, hP, hK, hD0⟩ := hv
  subst hsz
  subst hown
  have hl := lv_entry av (n := maxL) hn
  rw [lg_entry_eq]
  exact body p e s m _ below meth c (va_A w s.heap.size) _ ⟨B.exec, B.bytes, hml, findClass_of_methodNamed B.named, atoms_spec (ws := ws) B.pre⟩ hK ⟨hP, hD0.self (sz := s.heap.size), va_S.rf⟩ (fun q h => Or.inr h) B.returns B.notSynchronized rfl _ hl
theorem Wd.sub {G : GG} {A : Nat → Prop} {H0 H : Heap} {ws ws' : va_W} {locs : List Loc} (h : Wd G A H0 ws H locs) (is : List Nat) (hs : is.map (fun i => ws[i]?) = ws'.map some) (hn : va_nd is = true) : Wd G A H0 ws' H locs := ⟨va_P.of_map h.1 is hs, h.2.1.sub is hn hs, h.2.2⟩
