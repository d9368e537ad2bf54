/-! saying is one answer -/
theorem RunE_congr {g g' : Int → Int} {n s e : Int} (hs : 0 ≤ s) (hh : ∀ j, 0 ≤ j → j < n → g j = g' j) (h : RunE g s n e) : RunE g' s n e := by
  obtain ⟨h1, h2, h3, h4⟩ := h
  refine ⟨h1, h2, fun j j0 j1 => ?_, fun q => ?_⟩
  · rw [← hh j (by omega) (by omega), ← hh s hs (by omega)]
    exact h3 j j0 j1
  · rw [← hh e (by omega) q, ← hh s hs (by omega)]
    exact h4 q
theorem RunAt_0 {g : Int → Int} {n : Int} : ∀ (k : Nat) (s : Int), RunAt g n k s → 0 ≤ s := by
  intro k
  induction k with
  | zero => intro s h; have h : s = 0 := h; omega
  | succ k ih => intro s h; obtain ⟨x, h1, h2, h3⟩ := h; have := ih x h1; have := h3.1; omega
theorem RunAt_congr {g g' : Int → Int} {n : Int} (hh : ∀ j, 0 ≤ j → j < n → g j = g' j) : ∀ (k : Nat) (s : Int), RunAt g n k s → RunAt g' n k s := by
  intro k
  induction k with
  | zero => intro s h; exact h
  | succ k ih => intro s h; obtain ⟨x, h1, h2, h3⟩ := h; exact ⟨x, ih x h1, h2, RunE_congr (RunAt_0 k x h1) hh h3⟩
theorem RunAt_top {g : Int → Int} {n : Int} {t t' : Nat} (h : RunAt g n t n) (h' : RunAt g n t' n) : t' ≤ t := by
  rcases Nat.lt_or_ge t t' with q | q
  · obtain ⟨d, hd⟩ := Nat.exists_eq_add_of_lt q
    rw [hd] at h'
    obtain ⟨x, h1, h2, h3⟩ := h'
    exact absurd h2 (RunAt_end h (by omega) d x h1)
  · exact q
theorem SayR_fun {f f' g g' : Int → Int} {n m m' : Int} (hh : ∀ j, 0 ≤ j → j < n → f j = f' j) (h : SayR f n g m) (h' : SayR f' n g' m') : m = m' ∧ ∀ j, 0 ≤ j → j < m → g j = g' j := by
  obtain ⟨t, a1, a2, a3, a4, a5, a6⟩ := h
  obtain ⟨t', b1, b2, b3, b4, b5, b6⟩ := h'
  have c3 := RunAt_congr (fun j j0 j1 => (hh j j0 j1).symm) t' n b3
  have h1 := RunAt_top a3 c3
  have h2 := RunAt_top c3 a3
  have ht : t = t' := by omega
  subst ht
  refine ⟨by omega, fun j j0 j1 => ?_⟩
  obtain ⟨s, e, q1, q2, q3⟩ : ∃ s e, RunAt f n (j / 2).toNat s ∧ s < n ∧ RunE f s n e := by
    have key : ∀ (d k : Nat), k + d + 1 = t → ∃ s e, RunAt f n k s ∧ s < n ∧ RunE f s n e := by
      intro d
      induction d with
      | zero => intro k hk; rw [show t = k + 1 by omega] at a3; obtain ⟨x, y1, y2, y3⟩ := a3; exact ⟨x, n, y1, y2, y3⟩
      | succ d ih => intro k hk; obtain ⟨s, e, y1, y2, y3⟩ := ih (k + 1) (by omega); obtain ⟨x, z1, z2, z3⟩ := y1; exact ⟨x, s, z1, z2, z3⟩
    exact key (t - 1 - (j / 2).toNat) (j / 2).toNat (by omega)
  have p0 := RunAt_0 _ _ q1
  have x1 := a4 (j / 2).toNat (by omega) s e q1 q2 q3
  have x2 := b4 (j / 2).toNat (by omega) s e (RunAt_congr hh _ _ q1) q2 (RunE_congr p0 hh q3)
  have x3 := hh s p0 q2
  rcases (show j = 2 * ((j / 2).toNat : Int) ∨ j = 2 * ((j / 2).toNat : Int) + 1 by omega) with y | y
  · rw [y, x1.2.1, x2.2.1]
  · rw [y, x1.2.2, x2.2.2, x3]
