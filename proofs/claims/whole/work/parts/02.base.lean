/-! numbers: an int by its whole number; the rows of the walk in these words -/
def iI (z : Int) : Int32 := Int32.ofInt z
theorem iI_add (a b : Int) : iI a + iI b = iI (a + b) := (Int32.ofInt_add a b).symm
theorem iI_sub (a b : Int) : iI a - iI b = iI (a - b) := (Int32.ofInt_sub a b).symm
theorem iI_mul (a b : Int) : iI a * iI b = iI (a * b) := (Int32.ofInt_mul a b).symm
theorem iI_neg (a : Int) : -iI a = iI (-a) := (Int32.ofInt_neg a).symm
theorem iI_toInt {z : Int} (h1 : -2147483648 ≤ z) (h2 : z ≤ 2147483647) : (iI z).toInt = z := Int32.toInt_ofInt_of_le (by omega) (by omega)
theorem iI_ex (x : Int32) : ∃ z : Int, x = iI z ∧ -2147483648 ≤ z ∧ z ≤ 2147483647 := by
  refine ⟨x.toInt, (Int32.ofInt_toInt x).symm, ?_, ?_⟩
  · have := x.le_toInt; omega
  · have := x.toInt_lt; omega
theorem iI_lt {a b : Int} (h : (-2147483648 ≤ a ∧ a ≤ 2147483647) ∧ (-2147483648 ≤ b ∧ b ≤ 2147483647)) : iI a < iI b ↔ a < b := by
  rw [Int32.lt_iff_toInt_lt, iI_toInt h.1.1 h.1.2, iI_toInt h.2.1 h.2.2]
theorem iI_le {a b : Int} (h : (-2147483648 ≤ a ∧ a ≤ 2147483647) ∧ (-2147483648 ≤ b ∧ b ≤ 2147483647)) : iI a ≤ iI b ↔ a ≤ b := by
  rw [Int32.le_iff_toInt_le, iI_toInt h.1.1 h.1.2, iI_toInt h.2.1 h.2.2]
theorem iI_eq {a b : Int} (h : (-2147483648 ≤ a ∧ a ≤ 2147483647) ∧ (-2147483648 ≤ b ∧ b ≤ 2147483647)) : iI a = iI b ↔ a = b := by
  rw [← Int32.toInt_inj, iI_toInt h.1.1 h.1.2, iI_toInt h.2.1 h.2.2]
theorem iI_0 : iI 0 = 0 := rfl
theorem iI_tn {z : Int} (h0 : 0 ≤ z) (h1 : z ≤ 2147483647) : (iI z).toNatClampNeg = z.toNat := Int32.toNatClampNeg_ofInt_of_le (by omega) (by omega)
theorem iI_in {z : Int} {n : Nat} (h : 0 ≤ z ∧ z < n) (hn : n ≤ 2147483647) : vp_in (iI z) n := by
  have h0 := h.1
  have h1 := h.2
  rw [vp_in_iff, iI_toInt (by omega) (by omega)]
  omega
theorem iI_ofNat (n : Nat) : Int32.ofNat n = iI n := (Int32.ofInt_eq_ofNat).symm
theorem iI_nI (n : Nat) : nI n = iI n := iI_ofNat n
/-- the contents of a row of ints by its numbers -/
def iA (g : Int → Int) : Nat → Int32 := fun k => iI (g k)
/-- one number of a row anew -/
def up (g : Int → Int) (k x : Int) : Int → Int := fun j => if j = k then x else g j
theorem up_s (g : Int → Int) (k x : Int) : up g k x k = x := by simp [up]
theorem up_n (g : Int → Int) {k j : Int} (x : Int) (h : j ≠ k) : up g k x j = g j := by simp [up, h]
theorem iA_get (g : Int → Int) {z : Int} (h0 : 0 ≤ z) (h1 : z ≤ 2147483647) : iA g (iI z).toNatClampNeg = iI (g z) := by
  rw [iI_tn h0 h1, iA, Int.toNat_of_nonneg h0]
theorem iA_set (g : Int → Int) {z : Int} (x : Int) (h0 : 0 ≤ z) (h1 : z ≤ 2147483647) : upd (iA g) (iI z).toNatClampNeg (iI x) = iA (up g z x) := by
  rw [iI_tn h0 h1]
  funext j
  simp only [upd, iA, up]
  by_cases hj : j = z.toNat
  · subst hj
    rw [if_pos rfl, if_pos (Int.toNat_of_nonneg h0)]
  · rw [if_neg hj, if_neg (by omega)]
/-! a world in which some cells stand anew -/
def zv_re (ws : va_W) (is : List Nat) (w1 : va_W) : va_W := (is.zip w1).foldl (fun x q => x.set q.1 q.2) ws
theorem zv_re_c (ws : va_W) (i : Nat) (is : List Nat) (q : Nat × va_E) (w1 : va_W) : zv_re ws (i :: is) (q :: w1) = zv_re (ws.set i q) is w1 := rfl
theorem zv_re_len : ∀ (is : List Nat) (w1 ws : va_W), (zv_re ws is w1).length = ws.length
  | [], _, _ => rfl
  | _ :: _, [], _ => rfl
  | i :: is, q :: w1, ws => by rw [zv_re_c, zv_re_len is w1, List.length_set]
theorem zv_re_out : ∀ (is : List Nat) (w1 ws : va_W) (k : Nat), k ∉ is → (zv_re ws is w1)[k]? = ws[k]?
  | [], _, _, _, _ => rfl
  | _ :: _, [], _, _, _ => rfl
  | i :: is, q :: w1, ws, k, h => by
    rw [zv_re_c, zv_re_out is w1 _ k (fun z => h (List.mem_cons_of_mem _ z)), List.getElem?_set_ne (fun z => h (by rw [z]; exact List.mem_cons_self))]
theorem zv_re_in : ∀ (is : List Nat) (w1 ws : va_W), va_nd is = true → (∀ i ∈ is, i < ws.length) → ∀ (j k : Nat), is[j]? = some k → j < w1.length → (zv_re ws is w1)[k]? = w1[j]?
  | [], _, _, _, _, j, k, h, _ => by simp at h
  | _ :: _, [], _, _, _, _, _, _, h => absurd h (Nat.not_lt_zero _)
  | i :: is, q :: w1, ws, hn, hl, j, k, h, hj => by
    simp only [va_nd, Bool.and_eq_true, decide_eq_true_eq] at hn
    cases j with
    | zero =>
      rw [List.getElem?_cons_zero] at h
      cases h
      rw [zv_re_c, zv_re_out is w1 _ i hn.1, List.getElem?_set_self (hl i List.mem_cons_self)]
      rfl
    | succ j =>
      rw [List.getElem?_cons_succ] at h
      rw [zv_re_c, List.getElem?_cons_succ]
      exact zv_re_in is w1 _ hn.2 (fun x hx => by rw [List.length_set]; exact hl x (List.mem_cons_of_mem _ hx)) j k h (Nat.lt_of_succ_lt_succ hj)
theorem zv_adr {ws wc w1 : va_W} {is : List Nat} (hC : is.map (fun i => ws[i]?) = wc.map some) (hn : va_nd is = true) (ha : w1.map Prod.fst = wc.map Prod.fst) (k : Nat) : ((zv_re ws is w1)[k]?).map Prod.fst = (ws[k]?).map Prod.fst := by
  have hlen : is.length = wc.length := by have := congrArg List.length hC; simpa using this
  have hlen1 : w1.length = wc.length := by have := congrArg List.length ha; simpa using this
  have hmem : ∀ (j i : Nat), is[j]? = some i → ∃ q, wc[j]? = some q ∧ ws[i]? = some q := by
    intro j i hj
    have h2 := congrArg (fun l => l[j]?) hC
    simp only [List.getElem?_map, hj, Option.map_some] at h2
    cases hw : wc[j]? with
    | none => rw [hw] at h2; cases h2
    | some q => rw [hw] at h2; exact ⟨q, rfl, by simpa using h2⟩
  by_cases hk : k ∈ is
  · obtain ⟨j, hj⟩ := List.getElem?_of_mem hk
    obtain ⟨q, hq, hwq⟩ := hmem j k hj
    have hjl : j < w1.length := by rw [hlen1, ← hlen]; exact (List.getElem?_eq_some_iff.mp hj).1
    rw [zv_re_in is w1 ws hn (fun i hi => by
      obtain ⟨j', hj'⟩ := List.getElem?_of_mem hi
      obtain ⟨q', -, h'⟩ := hmem j' i hj'
      exact (List.getElem?_eq_some_iff.mp h').1) j k hj hjl, hwq]
    have h3 := congrArg (fun l => l[j]?) ha
    simp only [List.getElem?_map, hq] at h3
    exact h3
  · rw [zv_re_out is w1 ws k hk]
theorem zv_join {A0 : Nat → Prop} {D : va_G} {cl : List vw_C} {ws wc w1 : va_W} {H H1 : Heap} (hP : va_P D cl ws H) (hD : va_D A0 ws) (is : List Nat) (hC : is.map (fun i => ws[i]?) = wc.map some) (hn : va_nd is = true) (ha : w1.map Prod.fst = wc.map Prod.fst)
    (hk : ∀ q : Nat, q < H.size → ¬ va_A wc H.size q → H1[q]? = H[q]?) (hP1 : va_P D cl w1 H1) : va_P D cl (zv_re ws is w1) H1 ∧ va_D A0 (zv_re ws is w1) := by
  have hlen : is.length = wc.length := by have := congrArg List.length hC; simpa using this
  have hlen1 : w1.length = wc.length := by have := congrArg List.length ha; simpa using this
  have hmem : ∀ (j i : Nat), is[j]? = some i → ∃ q, wc[j]? = some q ∧ ws[i]? = some q := by
    intro j i hj
    have h2 := congrArg (fun l => l[j]?) hC
    simp only [List.getElem?_map, hj, Option.map_some] at h2
    cases hw : wc[j]? with
    | none => rw [hw] at h2; cases h2
    | some q => rw [hw] at h2; exact ⟨q, rfl, by simpa using h2⟩
  have hmem2 : ∀ (j : Nat) (q : Nat × va_E), wc[j]? = some q → ∃ i, is[j]? = some i ∧ ws[i]? = some q := by
    intro j q hq
    have hj : j < is.length := by rw [hlen]; exact (List.getElem?_eq_some_iff.mp hq).1
    refine ⟨is[j], List.getElem?_eq_getElem hj, ?_⟩
    obtain ⟨q', h1, h2⟩ := hmem j is[j] (List.getElem?_eq_getElem hj)
    rw [h1] at hq
    cases hq
    exact h2
  have hin : ∀ i ∈ is, i < ws.length := fun i hi => by
    obtain ⟨j', hj'⟩ := List.getElem?_of_mem hi
    obtain ⟨q', -, h'⟩ := hmem j' i hj'
    exact (List.getElem?_eq_some_iff.mp h').1
  have hadr := zv_adr hC hn ha
  refine ⟨?_, ?_, ?_⟩
  · intro k q hq
    by_cases hki : k ∈ is
    · obtain ⟨j, hj⟩ := List.getElem?_of_mem hki
      have hjl : j < w1.length := by rw [hlen1, ← hlen]; exact (List.getElem?_eq_some_iff.mp hj).1
      rw [zv_re_in is w1 ws hn hin j k hj hjl] at hq
      exact hP1 j q hq
    · rw [zv_re_out is w1 ws k hki] at hq
      refine (hP k q hq).kept (hk q.1 (hP k q hq).lt ?_)
      rintro (⟨j, e, hj⟩ | hge)
      · obtain ⟨i, hi, hwi⟩ := hmem2 j (q.1, e) hj
        have := hD.1 i k (q.1, e) q hwi hq rfl
        subst this
        exact hki (List.mem_of_getElem? hi)
      · exact absurd (hP k q hq).lt (Nat.not_lt.mpr hge)
  · intro i j p q hi hj hpq
    have h1 := hadr i
    have h2 := hadr j
    rw [hi] at h1
    rw [hj] at h2
    cases hwi : ws[i]? with
    | none => rw [hwi] at h1; cases h1
    | some p' =>
      cases hwj : ws[j]? with
      | none => rw [hwj] at h2; cases h2
      | some q' =>
        rw [hwi] at h1
        rw [hwj] at h2
        simp only [Option.map_some, Option.some.injEq] at h1 h2
        exact hD.1 i j p' q' hwi hwj (by rw [← h1, ← h2]; exact hpq)
  · intro k q hq
    have h1 := hadr k
    rw [hq] at h1
    cases hwk : ws[k]? with
    | none => rw [hwk] at h1; cases h1
    | some p' =>
      rw [hwk] at h1
      simp only [Option.map_some, Option.some.injEq] at h1
      rw [h1]
      exact hD.2 k p' hwk
