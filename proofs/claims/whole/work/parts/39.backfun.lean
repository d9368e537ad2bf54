/-! backs and unsaid are one answer -/
theorem UIt_fun {f f' : Int → Int} {n : Int} (hh : ∀ j, 0 ≤ j → j < n → f j = f' j) : ∀ (k : Nat) (g g' : Int → Int) (m m' : Int), UIt f n k g m → UIt f' n k g' m' → m = m' ∧ ∀ j, 0 ≤ j → j < m → g j = g' j := by
  intro k
  induction k with
  | zero =>
    intro g g' m m' h h'
    exact ⟨by rw [h.1, h'.1], fun j j0 j1 => by have e := h.1; rw [h.2 j j0 (by omega), h'.2 j j0 (by omega)]; exact hh j j0 (by omega)⟩
  | succ k ih =>
    intro g g' m m' h h'
    obtain ⟨g1, m1, h1, h2⟩ := h
    obtain ⟨g2, m2, h3, h4⟩ := h'
    obtain ⟨e1, e2⟩ := ih _ _ _ _ h1 h3
    subst e1
    exact UnR_fun (UnR_in e2 h2) h4
theorem UIt_pre {f : Int → Int} {n : Int} {j : Nat} : ∀ (d : Nat) (g : Int → Int) (m : Int), UIt f n (j + d + 1) g m → ∃ g1 m1 g2 m2, UIt f n j g1 m1 ∧ UnR g1 m1 g2 m2 := by
  intro d
  induction d with
  | zero => intro g m h; obtain ⟨g1, m1, h1, h2⟩ := h; exact ⟨g1, m1, g, m, h1, h2⟩
  | succ d ih => intro g m h; obtain ⟨g1, m1, h1, h2⟩ := h; exact ih g1 m1 h1
theorem BackR_le {f f' : Int → Int} {n z z' : Int} (hh : ∀ j, 0 ≤ j → j < n → f j = f' j) (h : BackR f n z) (h' : BackR f' n z') : z' ≤ z := by
  obtain ⟨a1, a2, g, m, a3, a4⟩ := h
  obtain ⟨b1, b2, g', m', b3, b4⟩ := h'
  rcases Int.lt_or_le z z' with q | q
  · exfalso
    rcases a4 with a4 | a4
    · omega
    · rw [show z'.toNat = z.toNat + (z'.toNat - z.toNat - 1) + 1 by omega] at b3
      obtain ⟨g1, m1, g2, m2, c1, c2⟩ := UIt_pre _ _ _ b3
      obtain ⟨e1, e2⟩ := UIt_fun hh _ _ _ _ _ a3 c1
      subst e1
      exact UnR_B c2 (UnB_in e2 a4)
  · exact q
theorem BackR_fun {f f' : Int → Int} {n z z' : Int} (hh : ∀ j, 0 ≤ j → j < n → f j = f' j) (h : BackR f n z) (h' : BackR f' n z') : z = z' := by
  have := BackR_le hh h h'
  have := BackR_le (fun j j0 j1 => (hh j j0 j1).symm) h' h
  omega
theorem UnsaidQ_fun {f f' : Int → Int} {n i z z' : Int} (hi : -1 ≤ i) (hh : ∀ j, 0 ≤ j → j < n → f j = f' j) (h : UnsaidQ f n i z) (h' : UnsaidQ f' n i z') : z = z' := by
  rcases h with ⟨a, e⟩ | ⟨g, m, a, e1, e2, e3⟩ <;> rcases h' with ⟨c, d⟩ | ⟨g', m', c, d1, d2, d3⟩
  · rw [e, d]
  · exact (UnR_B c (UnB_in hh a)).elim
  · exact (UnR_B (UnR_in hh a) c).elim
  · obtain ⟨x1, x2⟩ := UnR_fun (UnR_in hh a) c
    subst x1
    rcases Int.lt_or_le i 0 with q | q
    · rw [e1 (by omega), d1 (by omega)]
    · rcases Int.lt_or_le i m with w | w
      · rw [e2 ⟨q, w⟩, d2 ⟨q, w⟩, x2 i q w]
      · rw [e3 w q, d3 w q]
