/-! saying or counting goes one way -/
theorem SayR_B {f f' g : Int → Int} {n m : Int} (hh : ∀ j, 0 ≤ j → j < n → f j = f' j) (h : SayR f n g m) (hb : SayB f' n) : False := by
  obtain ⟨t0, a1, a2, a3, a4, a5, a6⟩ := h
  obtain ⟨t, s, e, b1, b2, b3, b4⟩ := hb
  have hs : ∀ j, 0 ≤ j → j < n → f' j = f j := fun j j0 j1 => (hh j j0 j1).symm
  have c1 := RunAt_congr hs _ _ b1
  have c3 := RunE_congr (RunAt_0 _ _ b1) hs b3
  rcases Nat.lt_or_ge t t0 with q | q
  · have := a4 t q s e c1 b2 c3
    omega
  · obtain ⟨d, hd⟩ := Nat.exists_eq_add_of_le q
    rw [hd] at c1
    exact absurd b2 (RunAt_end a3 (by omega) d s c1)
theorem TalR_B {f f' g : Int → Int} {n m : Int} (hh : ∀ j, 0 ≤ j → j < n → f j = f' j) (h : TalR f n g m) (hb : TalB f' n) : False := by
  obtain ⟨y, y0, y1, y2⟩ := hb
  have := (h.2 y y0 y1).1
  rw [oc_congr (v := y + 1) hh] at this
  omega
theorem StepR_fun {b : Int} {f f' g g' : Int → Int} {n m m' : Int} (hh : ∀ j, 0 ≤ j → j < n → f j = f' j) (h : StepR b f n g m) (h' : StepR b f' n g' m') : m = m' ∧ ∀ j, 0 ≤ j → j < m → g j = g' j := by
  rcases h with ⟨a, h⟩ | ⟨a, h⟩ <;> rcases h' with ⟨c, h'⟩ | ⟨c, h'⟩
  · exact TalR_fun (TalR_congr hh h) h'
  · exact absurd c a
  · exact absurd a c
  · exact SayR_fun hh h h'
theorem StepR_B {b : Int} {f f' g : Int → Int} {n m : Int} (hh : ∀ j, 0 ≤ j → j < n → f j = f' j) (h : StepR b f n g m) (h' : StepB b f' n) : False := by
  rcases h with ⟨a, h⟩ | ⟨a, h⟩ <;> rcases h' with ⟨c, h'⟩ | ⟨c, h'⟩
  · exact TalR_B hh h h'
  · exact absurd c a
  · exact absurd a c
  · exact SayR_B hh h h'
theorem It_fun {b : Int} {f f' : Int → Int} {n : Int} (hh : ∀ j, 0 ≤ j → j < n → f j = f' j) : ∀ (k : Nat) (g g' : Int → Int) (m m' : Int), It b f n k g m → It b f' n k g' m' → m = m' ∧ ∀ j, 0 ≤ j → j < m → g j = g' j := by
  intro k
  induction k with
  | zero =>
    intro g g' m m' h h'
    exact ⟨by rw [h.1, h'.1], fun j j0 j1 => by have e := h.1; rw [h.2 j j0 (by omega), h'.2 j j0 (by omega)]; exact hh j j0 (by omega)⟩
  | succ k ih =>
    intro g g' m m' h h'
    obtain ⟨g1, m1, h1, h2⟩ := h
    obtain ⟨g2, m2, h3, h4⟩ := h'
    obtain ⟨e1, e2⟩ := ih _ _ _ _ h1 h3
    subst e1
    exact StepR_fun e2 h2 h4
theorem It_pre {b : Int} {f : Int → Int} {n : Int} {j : Nat} : ∀ (d : Nat) (g : Int → Int) (m : Int), It b f n (j + d + 1) g m → ∃ g1 m1 g2 m2, It b f n j g1 m1 ∧ StepR b g1 m1 g2 m2 := by
  intro d
  induction d with
  | zero => intro g m h; obtain ⟨g1, m1, h1, h2⟩ := h; exact ⟨g1, m1, g, m, h1, h2⟩
  | succ d ih => intro g m h; obtain ⟨g1, m1, h1, h2⟩ := h; exact ih g1 m1 h1
theorem It_B {b : Int} {f f' : Int → Int} {n : Int} {k : Nat} {g : Int → Int} {m : Int} (hh : ∀ j, 0 ≤ j → j < n → f j = f' j) (h : It b f n k g m) (hb : ItB b f' n k) : False := by
  obtain ⟨j, g1, m1, h1, h2, h3⟩ := hb
  obtain ⟨d, hd⟩ := Nat.exists_eq_add_of_lt h1
  rw [hd] at h
  obtain ⟨g2, m2, g3, m3, h4, h5⟩ := It_pre d g m h
  obtain ⟨e1, e2⟩ := It_fun hh j _ _ _ _ h4 h2
  subst e1
  exact StepR_B e2 h5 h3
theorem SaidQ_fun {b : Int} {f f' : Int → Int} {n k i z z' : Int} (hi : -1 ≤ i) (hh : ∀ j, 0 ≤ j → j < n → f j = f' j) (h : SaidQ b f n k i z) (h' : SaidQ b f' n k i z') : z = z' := by
  rcases h with ⟨a, e⟩ | ⟨g, m, a, e1, e2, e3⟩ <;> rcases h' with ⟨c, d⟩ | ⟨g', m', c, d1, d2, d3⟩
  · rw [e, d]
  · exact (It_B (fun j j0 j1 => (hh j j0 j1).symm) c a).elim
  · exact (It_B hh a c).elim
  · obtain ⟨x1, x2⟩ := It_fun hh _ _ _ _ _ a c
    subst x1
    rcases Int.lt_or_le i 0 with q | q
    · rw [e1 (by omega), d1 (by omega)]
    · rcases Int.lt_or_le i m with w | w
      · rw [e2 ⟨q, w⟩, d2 ⟨q, w⟩, x2 i q w]
      · rw [e3 w q, d3 w q]
