/-! counting goes to one answer; where counting goes round; the pool of steps -/
theorem tc_hit {f : Int → Int} {n x i : Int} (hx : 0 ≤ x) (h0 : 0 ≤ i) : i < tc f n x → ∃ y, 0 ≤ y ∧ y < x ∧ tc f n y = i ∧ 0 < oc f (y + 1) n := by
  refine sm_ind (P := fun x => i < tc f n x → ∃ y, 0 ≤ y ∧ y < x ∧ tc f n y = i ∧ 0 < oc f (y + 1) n) x (fun h => by rw [tc_0] at h; omega) (fun x x0 x1 ih h => ?_) hx
  rw [tc_s x0] at h
  rcases Int.lt_or_le i (tc f n x) with q | q
  · obtain ⟨y, y0, y1, y2, y3⟩ := ih q
    exact ⟨y, y0, by omega, y2, y3⟩
  · split at h
    · exact ⟨x, x0, by omega, by omega, by assumption⟩
    · omega
theorem tc_congr {f f' : Int → Int} {n x : Int} (hh : ∀ j, 0 ≤ j → j < n → f j = f' j) : tc f n x = tc f' n x := sm_congr (fun y _ _ => by rw [oc_congr (v := y + 1) hh])
theorem TalR_congr {f f' g : Int → Int} {n m : Int} (hh : ∀ j, 0 ≤ j → j < n → f j = f' j) (h : TalR f n g m) : TalR f' n g m := by
  obtain ⟨h1, h2⟩ := h
  refine ⟨by rw [h1, tc_congr hh], fun y y0 y1 => ?_⟩
  have := h2 y y0 y1
  rw [oc_congr (v := y + 1) hh, tc_congr (x := y) hh] at this
  exact this
theorem TalR_fun {f g g' : Int → Int} {n m m' : Int} (h : TalR f n g m) (h' : TalR f n g' m') : m = m' ∧ ∀ j, 0 ≤ j → j < m → g j = g' j := by
  obtain ⟨h1, h2⟩ := h
  obtain ⟨g1, g2⟩ := h'
  refine ⟨by omega, fun j j0 j1 => ?_⟩
  obtain ⟨y, y0, y1, y2, y3⟩ := tc_hit (f := f) (n := n) (x := 9) (i := j / 2) (by omega) (by omega) (by omega)
  have a := (h2 y y0 y1).2 y3
  have b := (g2 y y0 y1).2 y3
  rcases Int.emod_two_eq j with q | q
  · rw [show j = 2 * tc f n y by omega, a.1, b.1]
  · rw [show j = 2 * tc f n y + 1 by omega, a.2, b.2]
theorem It1_fun {f : Int → Int} {n : Int} : ∀ (k : Nat) (g g' : Int → Int) (m m' : Int), It 1 f n k g m → It 1 f n k g' m' → m = m' ∧ ∀ j, 0 ≤ j → j < m → g j = g' j := by
  intro k
  induction k with
  | zero =>
    intro g g' m m' h h'
    exact ⟨by rw [h.1, h'.1], fun j j0 j1 => by have e := h.1; rw [h.2 j j0 (by omega), h'.2 j j0 (by omega)]⟩
  | succ k ih =>
    intro g g' m m' h h'
    obtain ⟨g1, m1, h1, h2⟩ := h
    obtain ⟨g2, m2, h3, h4⟩ := h'
    obtain ⟨e1, e2⟩ := ih _ _ _ _ h1 h3
    subst e1
    rcases h2 with ⟨-, h2⟩ | ⟨q, -⟩
    · rcases h4 with ⟨-, h4⟩ | ⟨q, -⟩
      · exact TalR_fun (TalR_congr e2 h2) h4
      · omega
    · omega
theorem It1_no {f : Int → Int} {n : Int} {k k' : Nat} {g1 g : Int → Int} {m1 m : Int} (h : It 1 f n k g1 m1) (hb : TalB g1 m1) (hk : k < k') (h' : It 1 f n k' g m) : False := by
  induction k' generalizing g m with
  | zero => omega
  | succ k' ih =>
    obtain ⟨g2, m2, h3, h4⟩ := h'
    rcases Nat.lt_or_ge k k' with q | q
    · exact ih q h3
    · have : k = k' := by omega
      subst this
      obtain ⟨e1, e2⟩ := It1_fun k _ _ _ _ h h3
      subst e1
      rcases h4 with ⟨-, h4⟩ | ⟨q, -⟩
      · obtain ⟨y, y0, y1, y2⟩ := hb
        have := (h4.2 y y0 y1).1
        rw [oc_congr (v := y + 1) e2] at y2
        omega
      · omega
/-- step s and step e are the same figures -/
def Alike (f : Int → Int) (n e s : Int) : Prop := ∃ g m g' m', It 1 f n e.toNat g m ∧ It 1 f n s.toNat g' m' ∧ m = m' ∧ ∀ j, 0 ≤ j → j < m → g j = g' j
theorem Alike_no {f g g' : Int → Int} {n e s m m' : Int} (h : It 1 f n e.toNat g m) (h' : It 1 f n s.toNat g' m') (hn : ¬ (m = m' ∧ ∀ j, 0 ≤ j → j < m → g j = g' j)) : ¬ Alike f n e s := by
  intro ⟨g1, m1, g2, m2, a1, a2, a3, a4⟩
  obtain ⟨x1, x2⟩ := It1_fun _ _ _ _ _ h a1
  obtain ⟨y1, y2⟩ := It1_fun _ _ _ _ _ h' a2
  exact hn ⟨by omega, fun j j0 j1 => by rw [x2 j j0 j1, y2 j j0 (by omega), a4 j j0 (by omega)]⟩
/-- counting goes round from step e on, each d steps -/
def RoundR (f : Int → Int) (n e d : Int) : Prop := 0 ≤ e ∧ 1 ≤ d ∧ e + d ≤ 60 ∧ Alike f n e (e + d) ∧ (∀ u, 0 ≤ u → u < e → ¬ Alike f n u (e + d)) ∧ ∀ u v, 0 ≤ u → u < v → v < e + d → ¬ Alike f n u v
def RoundN (f : Int → Int) (n : Int) : Prop := ∀ u v, 0 ≤ u → u < v → v ≤ 60 → ¬ Alike f n u v
theorem RoundR_fun {f : Int → Int} {n e d e' d' : Int} (h : RoundR f n e d) (h' : RoundR f n e' d') : e = e' ∧ d = d' := by
  obtain ⟨h1, h2, h3, h4, h5, h6⟩ := h
  obtain ⟨g1, g2, g3, g4, g5, g6⟩ := h'
  rcases Int.lt_trichotomy (e + d) (e' + d') with q | q | q
  · exact absurd h4 (g6 e (e + d) h1 (by omega) q)
  · rw [q] at h4 h5
    rcases Int.lt_trichotomy e e' with w | w | w
    · exact absurd h4 (g5 e h1 w)
    · omega
    · exact absurd g4 (h5 e' g1 w)
  · exact absurd g4 (h6 e' (e' + d') g1 (by omega) q)
theorem RoundR_N {f : Int → Int} {n e d : Int} (h : RoundR f n e d) (h' : RoundN f n) : False := h' e (e + d) h.1 (by have := h.2.1; omega) h.2.2.1 h.2.2.2.1
/-- what the call round answers -/
def RoundQ (f : Int → Int) (n w z : Int) : Prop := (RoundN f n ∧ z = -2) ∨ ∃ e d, RoundR f n e d ∧ (w = 0 → z = e) ∧ (w = 1 → z = d)
/-- one row of rows anew -/
def upF (F : Int → Int → Int) (k : Int) (g : Int → Int) : Int → Int → Int := fun j => if j = k then g else F j
theorem upF_s (F : Int → Int → Int) (k : Int) (g : Int → Int) : upF F k g k = g := by simp [upF]
theorem upF_n (F : Int → Int → Int) {k j : Int} (g : Int → Int) (h : j ≠ k) : upF F k g j = F j := by simp [upF, h]
abbrev plh (sh sa : Int → Nat) (i n : Int) : Nat × va_E := (sh i, .inr (5, [.ref (sa i), .int (iI n)]))
abbrev pla (G : GG) (sa : Int → Nat) (i : Int) (f : Int → Int) : Nat × va_E := (sa i, .inl (G.2.1 0, 40, .inl (iA f)))
def plF (G : GG) (sh sa : Int → Nat) (N : Int → Int) (F : Int → Int → Int) : Nat → Int → va_W
  | 0, _ => []
  | m + 1, i => plh sh sa i (N i) :: pla G sa i (F i) :: plF G sh sa N F m (i + 1)
theorem plF_at {G : GG} {sh sa : Int → Nat} {N : Int → Int} {F : Int → Int → Int} : ∀ (m : Nat) (i : Int) (k : Nat), k < m → (plF G sh sa N F m i)[2 * k]? = some (plh sh sa (i + k) (N (i + k))) ∧ (plF G sh sa N F m i)[2 * k + 1]? = some (pla G sa (i + k) (F (i + k))) := by
  intro m
  induction m with
  | zero => intro i k h; omega
  | succ m ih =>
    intro i k h
    cases k with
    | zero => rw [show i + ((0 : Nat) : Int) = i by omega]; exact ⟨rfl, rfl⟩
    | succ k =>
      have := ih (i + 1) k (by omega)
      rw [show 2 * (k + 1) = 2 * k + 1 + 1 by omega, show 2 * k + 1 + 1 + 1 = (2 * k + 1) + 1 + 1 by omega, show i + ((k + 1 : Nat) : Int) = i + 1 + (k : Int) by omega]
      exact this
theorem plF_congr {G : GG} {sh sa : Int → Nat} {N N' : Int → Int} {F F' : Int → Int → Int} : ∀ (m : Nat) (i : Int), (∀ j, i ≤ j → N j = N' j ∧ F j = F' j) → plF G sh sa N F m i = plF G sh sa N' F' m i := by
  intro m
  induction m with
  | zero => intro i _; rfl
  | succ m ih =>
    intro i h
    rw [plF, plF, (h i (by omega)).1, (h i (by omega)).2, ih (i + 1) (fun j hj => h j (by omega))]
theorem plF_set {G : GG} {sh sa : Int → Nat} {n : Int} {f : Int → Int} : ∀ (m : Nat) (i : Int) (k : Nat) (N : Int → Int) (F : Int → Int → Int), k < m → ((plF G sh sa N F m i).set (2 * k) (plh sh sa (i + k) n)).set (2 * k + 1) (pla G sa (i + k) f) = plF G sh sa (up N (i + k) n) (upF F (i + k) f) m i := by
  intro m
  induction m with
  | zero => intro i k N F h; omega
  | succ m ih =>
    intro i k N F h
    cases k with
    | zero =>
      rw [show i + ((0 : Nat) : Int) = i by omega, plF, plF, up_s, upF_s, plF_congr m (i + 1) (N := up N i n) (F := upF F i f) (N' := N) (F' := F) (fun j hj => ⟨up_n _ _ (by omega), upF_n _ _ (by omega)⟩)]
      rfl
    | succ k =>
      have := ih (i + 1) k N F (by omega)
      rw [show i + ((k + 1 : Nat) : Int) = i + 1 + (k : Int) by omega, plF, plF, up_n _ _ (show i ≠ i + 1 + (k : Int) by omega), upF_n _ _ (show i ≠ i + 1 + (k : Int) by omega), ← this]
      rfl
theorem set_same {α : Type} {l : List α} {i : Nat} {c : α} (h : l[i]? = some c) : l.set i c = l := by
  apply List.ext_getElem?
  intro j
  by_cases hj : i = j
  · subst hj
    rw [List.getElem?_set_self (List.getElem?_eq_some_iff.mp h).1, h]
  · rw [List.getElem?_set_ne hj]
section PL
variable {G : GG} {sh sa : Int → Nat} {N : Int → Int} {F : Int → Int → Int} {hd : va_W}
theorem pl_h (hh : hd.length = 4) {i : Int} (hi : 0 ≤ i ∧ i ≤ 60) : (hd ++ plF G sh sa N F 61 0)[4 + 2 * i.toNat]? = some (plh sh sa i (N i)) := by
  rw [List.getElem?_append_right (by omega), show 4 + 2 * i.toNat - hd.length = 2 * i.toNat by omega, (plF_at 61 0 i.toNat (by omega)).1, show (0 : Int) + (i.toNat : Int) = i by omega]
theorem pl_a (hh : hd.length = 4) {i : Int} (hi : 0 ≤ i ∧ i ≤ 60) : (hd ++ plF G sh sa N F 61 0)[5 + 2 * i.toNat]? = some (pla G sa i (F i)) := by
  rw [List.getElem?_append_right (by omega), show 5 + 2 * i.toNat - hd.length = 2 * i.toNat + 1 by omega, (plF_at 61 0 i.toNat (by omega)).2, show (0 : Int) + (i.toNat : Int) = i by omega]
theorem pl_set (hh : hd.length = 4) {i n : Int} {f : Int → Int} (hi : 0 ≤ i ∧ i ≤ 60) : ((hd ++ plF G sh sa N F 61 0).set (4 + 2 * i.toNat) (plh sh sa i n)).set (5 + 2 * i.toNat) (pla G sa i f) = hd ++ plF G sh sa (up N i n) (upF F i f) 61 0 := by
  have h := plF_set (G := G) (sh := sh) (sa := sa) (n := n) (f := f) 61 0 i.toNat N F (by omega)
  rw [show (0 : Int) + (i.toNat : Int) = i by omega] at h
  rw [List.set_append_right _ _ (by omega), List.set_append_right _ _ (by omega), show 4 + 2 * i.toNat - hd.length = 2 * i.toNat by omega, show 5 + 2 * i.toNat - hd.length = 2 * i.toNat + 1 by omega, h]
theorem pl_map2 (hh : hd.length = 4) {a b : Int} (ha : 0 ≤ a ∧ a ≤ 60) (hb : 0 ≤ b ∧ b ≤ 60) : [4 + 2 * a.toNat, 5 + 2 * a.toNat, 4 + 2 * b.toNat, 5 + 2 * b.toNat].map (fun i => (hd ++ plF G sh sa N F 61 0)[i]?) = ([plh sh sa a (N a), pla G sa a (F a), plh sh sa b (N b), pla G sa b (F b)] : va_W).map some := by
  simp only [List.map]
  rw [pl_h hh ha, pl_a hh ha, pl_h hh hb, pl_a hh hb]
theorem pl_nd2 {a b : Int} (ha : 0 ≤ a) (hb : 0 ≤ b) (hab : a ≠ b) : va_nd [4 + 2 * a.toNat, 5 + 2 * a.toNat, 4 + 2 * b.toNat, 5 + 2 * b.toNat] = true := by
  simp only [va_nd, List.mem_cons, List.not_mem_nil, or_false, Bool.and_eq_true, decide_eq_true_eq, and_true, not_false_eq_true]
  omega
theorem pl_up2 (hh : hd.length = 4) {a b n : Int} {f : Int → Int} (ha : 0 ≤ a ∧ a ≤ 60) (hb : 0 ≤ b ∧ b ≤ 60) : zv_re (hd ++ plF G sh sa N F 61 0) [4 + 2 * a.toNat, 5 + 2 * a.toNat, 4 + 2 * b.toNat, 5 + 2 * b.toNat] [plh sh sa a (N a), pla G sa a (F a), plh sh sa b n, pla G sa b f] = hd ++ plF G sh sa (up N b n) (upF F b f) 61 0 := by
  rw [zv_re_c, zv_re_c, zv_re_c, zv_re_c]
  show (((((hd ++ plF G sh sa N F 61 0).set (4 + 2 * a.toNat) (plh sh sa a (N a))).set (5 + 2 * a.toNat) (pla G sa a (F a))).set (4 + 2 * b.toNat) (plh sh sa b n)).set (5 + 2 * b.toNat) (pla G sa b f)) = _
  rw [set_same (pl_h hh ha), set_same (pl_a hh ha), pl_set hh hb]
theorem pl_cp {h1 h2 h3 h4 : Nat × va_E} {n : Int} {f : Int → Int} : zv_re ([h1, h2, h3, h4] ++ plF G sh sa N F 61 0) [4, 5, 2, 3] [plh sh sa 0 n, pla G sa 0 f, h3, h4] = [h1, h2, h3, h4] ++ plF G sh sa (up N 0 n) (upF F 0 f) 61 0 := by
  rw [← pl_set (i := 0) (n := n) (f := f) rfl (by omega)]
  rfl
end PL
/-! a world that ends in the pool -/
theorem plF_len {G : GG} {sh sa : Int → Nat} {N : Int → Int} {F : Int → Int → Int} : ∀ (m : Nat) (i : Int), (plF G sh sa N F m i).length = 2 * m := by
  intro m
  induction m with
  | zero => intro i; rfl
  | succ m ih => intro i; rw [plF, List.length_cons, List.length_cons, ih]; omega
theorem pl_fst {G : GG} {sh sa : Int → Nat} {N N' : Int → Int} {F F' : Int → Int → Int} : ∀ (m : Nat) (i : Int), (plF G sh sa N F m i).map Prod.fst = (plF G sh sa N' F' m i).map Prod.fst := by
  intro m
  induction m with
  | zero => intro i; rfl
  | succ m ih => intro i; rw [plF, plF, List.map_cons, List.map_cons, List.map_cons, List.map_cons, ih]
theorem pq_fst {G : GG} {sh sa : Int → Nat} {N N' : Int → Int} {F F' : Int → Int → Int} {m : Nat} {i : Int} {c0 c1 : va_W} (h : c0.map Prod.fst = c1.map Prod.fst) : (c0 ++ plF G sh sa N F m i).map Prod.fst = (c1 ++ plF G sh sa N' F' m i).map Prod.fst := by
  rw [List.map_append, List.map_append, h, pl_fst (N' := N') (F' := F')]
theorem pq_lt {w0 c0 : va_W} {is : List Nat} (h : is.map (fun i => w0[i]?) = c0.map some) : ∀ i ∈ is, i < w0.length := by
  intro i hi
  have h1 : w0[i]? ∈ is.map (fun i => w0[i]?) := List.mem_map.mpr ⟨i, hi, rfl⟩
  rw [h] at h1
  obtain ⟨c, -, hc⟩ := List.mem_map.mp h1
  exact (List.getElem?_eq_some_iff.mp hc.symm).1
theorem pq_rng {w0 : va_W} : ∀ (pl : va_W) (k : Nat), w0.length ≤ k → (List.range' k pl.length).map (fun i => (w0 ++ (List.replicate (k - w0.length) (0, .inr (0, [])) ++ pl))[i]?) = pl.map some := by
  intro pl k hk
  apply List.ext_getElem?
  intro j
  by_cases hj : j < pl.length
  · rw [List.getElem?_map, List.getElem?_range' (by omega), Option.map_some, List.getElem?_append_right (by omega), List.getElem?_append_right (by rw [List.length_replicate]; omega), List.length_replicate, List.getElem?_map, show k + 1 * j - w0.length - (k - w0.length) = j by omega, List.getElem?_eq_getElem hj]
    rfl
  · rw [List.getElem?_eq_none (by rw [List.length_map, List.length_range']; omega), List.getElem?_eq_none (by rw [List.length_map]; omega)]
theorem pq_map {w0 c0 pl : va_W} {is : List Nat} {n k : Nat} (hk : w0.length = k) (hn : pl.length = n) (h : is.map (fun i => w0[i]?) = c0.map some) : (is ++ List.range' k n).map (fun i => (w0 ++ pl)[i]?) = (c0 ++ pl).map some := by
  rw [List.map_append, List.map_append]
  have hl := pq_lt h
  have h1 : is.map (fun i => (w0 ++ pl)[i]?) = is.map (fun i => w0[i]?) := List.map_congr_left (fun i hi => List.getElem?_append_left (hl i hi))
  have h2 := pq_rng (w0 := w0) pl k (by omega)
  rw [show k - w0.length = 0 by omega, List.replicate_zero, List.nil_append, hn] at h2
  rw [h1, h, h2]
theorem pq_nd1 : ∀ (n k : Nat), va_nd (List.range' k n) = true := by
  intro n
  induction n with
  | zero => intro k; rfl
  | succ n ih =>
    intro k
    rw [List.range'_succ]
    simp only [va_nd, Bool.and_eq_true, decide_eq_true_eq]
    exact ⟨fun h => by have := List.mem_range'_1.mp h; omega, ih _⟩
theorem pq_nd {n k : Nat} : ∀ (is : List Nat), va_nd is = true → (∀ i ∈ is, i < k) → va_nd (is ++ List.range' k n) = true := by
  intro is
  induction is with
  | nil => intro _ _; exact pq_nd1 n k
  | cons i is ih =>
    intro h hb
    simp only [va_nd, Bool.and_eq_true, decide_eq_true_eq] at h
    rw [List.cons_append]
    simp only [va_nd, Bool.and_eq_true, decide_eq_true_eq]
    refine ⟨fun hm => ?_, ih h.2 (fun j hj => hb j (List.mem_cons_of_mem _ hj))⟩
    rcases List.mem_append.mp hm with q | q
    · exact h.1 q
    · have := (List.mem_range'_1.mp q).1
      have := hb i List.mem_cons_self
      omega
theorem zv_re_app : ∀ (is : List Nat) (a : va_W) (ws : va_W) (js : List Nat) (b : va_W), is.length = a.length → zv_re ws (is ++ js) (a ++ b) = zv_re (zv_re ws is a) js b := by
  intro is
  induction is with
  | nil => intro a ws js b h; cases a with
    | nil => rfl
    | cons _ _ => cases h
  | cons i is ih => intro a ws js b h; cases a with
    | nil => cases h
    | cons q a => rw [List.cons_append, List.cons_append, zv_re_c, zv_re_c, ih _ _ _ _ (by simpa using h)]
theorem zv_re_left : ∀ (is : List Nat) (a : va_W) (w0 pl : va_W), (∀ i ∈ is, i < w0.length) → zv_re (w0 ++ pl) is a = zv_re w0 is a ++ pl := by
  intro is
  induction is with
  | nil => intro a w0 pl _; rfl
  | cons i is ih => intro a w0 pl h; cases a with
    | nil => rfl
    | cons q a => rw [zv_re_c, zv_re_c, List.set_append_left _ _ (h i List.mem_cons_self), ih _ _ _ (fun j hj => by rw [List.length_set]; exact h j (List.mem_cons_of_mem _ hj))]
theorem zv_re_rng : ∀ (pl pl' : va_W) (w0 : va_W), pl.length = pl'.length → zv_re (w0 ++ pl) (List.range' w0.length pl.length) pl' = w0 ++ pl' := by
  intro pl
  induction pl with
  | nil => intro pl' w0 h; cases pl' with
    | nil => rfl
    | cons _ _ => cases h
  | cons q pl ih => intro pl' w0 h; cases pl' with
    | nil => cases h
    | cons q' pl' =>
      have h1 := ih pl' (w0 ++ [q']) (by simpa using h)
      rw [List.length_cons, List.range'_succ, zv_re_c, List.set_append_right _ _ (by omega), show w0.length - w0.length = 0 by omega, List.set_cons_zero]
      rw [List.length_append, List.length_singleton, List.append_assoc, List.append_assoc] at h1
      exact h1
theorem pq_up {w0 c0 c1 pl pl' : va_W} {is : List Nat} {n k : Nat} (hk : w0.length = k) (hn : pl.length = n) (hn' : pl'.length = n) (h : is.map (fun i => w0[i]?) = c0.map some) (hc : c1.length = c0.length) : zv_re (w0 ++ pl) (is ++ List.range' k n) (c1 ++ pl') = zv_re w0 is c1 ++ pl' := by
  have hl := congrArg List.length h
  rw [List.length_map, List.length_map] at hl
  have h3 := zv_re_rng pl pl' (zv_re w0 is c1) (by omega)
  rw [zv_re_len, hk, hn] at h3
  rw [zv_re_app _ _ _ _ _ (by omega), zv_re_left _ _ _ _ (pq_lt h), h3]
