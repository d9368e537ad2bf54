/-! what is asked of a row has one answer -/
theorem FirstR_fun {g g' : Int → Int} {n v z z' : Int} (hh : ∀ j, 0 ≤ j → j < n → g j = g' j) (h : FirstR g n v z) (h' : FirstR g' n v z') : z = z' := by
  rcases h with ⟨a, b, c, d⟩ | ⟨a, b⟩ <;> rcases h' with ⟨a', b', c', d'⟩ | ⟨a', b'⟩
  · rcases Int.lt_trichotomy z z' with q | q | q
    · exact absurd (by rw [← hh z a b]; exact c) (d' z a q)
    · exact q
    · exact absurd (by rw [hh z' a' b']; exact c') (d z' a' q)
  · exact absurd (by rw [← hh z a b]; exact c) (b' z a b)
  · exact absurd (by rw [hh z' a' b']; exact c') (b z' a' b')
  · rw [a, a']
theorem MaxR_fun {g g' : Int → Int} {n z z' : Int} (hh : ∀ j, 0 ≤ j → j < n → g j = g' j) (h : MaxR g n z) (h' : MaxR g' n z') : z = z' := by
  obtain ⟨⟨j, a, b, c⟩, d⟩ := h
  obtain ⟨⟨j', a', b', c'⟩, d'⟩ := h'
  have h1 := d j' a' b'
  have h2 := d' j a b
  rw [hh j' a' b'] at h1
  rw [← hh j a b] at h2
  omega
theorem TailR_in {g g' : Int → Int} {n p z : Int} (hp : 0 ≤ p) (hh : ∀ j, 0 ≤ j → j < n → g j = g' j) (h : TailR g n p z) : TailR g' n p z := by
  obtain ⟨a, b, c, d⟩ := h
  refine ⟨a, b, fun j j0 j1 => ?_, d.elim Or.inl (fun q => ?_)⟩
  · rw [← hh j (by omega) (by omega), ← hh (j + p) (by omega) (by omega)]
    exact c j j0 j1
  · rcases Int.lt_or_le 0 z with w | w
    · refine Or.inr ?_
      rw [← hh (z - 1) (by omega) (by omega), ← hh (z - 1 + p) (by omega) (by omega)]
      exact q
    · exact Or.inl (by omega)
theorem GoesR_in {g g' : Int → Int} {n p : Int} (hh : ∀ j, 0 ≤ j → j < n → g j = g' j) (h : GoesR g n p) : GoesR g' n p := by
  obtain ⟨a, b, z, c, d⟩ := h
  exact ⟨a, b, z, TailR_in (by omega) hh c, d⟩
theorem PerR_fun {g g' : Int → Int} {n z z' : Int} (hh : ∀ j, 0 ≤ j → j < n → g j = g' j) (h : PerR g n z) (h' : PerR g' n z') : z = z' := by
  have hs : ∀ j, 0 ≤ j → j < n → g' j = g j := fun j j0 j1 => (hh j j0 j1).symm
  rcases h with ⟨a, b⟩ | ⟨a, b⟩ <;> rcases h' with ⟨a', b'⟩ | ⟨a', b'⟩
  · rcases Int.lt_trichotomy z z' with q | q | q
    · exact absurd (GoesR_in hh a) (b' z q)
    · exact q
    · exact absurd (GoesR_in hs a') (b z' q)
  · exact absurd (GoesR_in hh a) (b' z)
  · exact absurd (GoesR_in hs a') (b z')
  · rw [a, a']
theorem AroundQ_fun {g g' : Int → Int} {L w z z' : Int} (hw : 0 ≤ w ∧ w ≤ 1) (hh : ∀ j, 0 ≤ j → j < L → g j = g' j) (h : AroundQ g L w z) (h' : AroundQ g' L w z') : z = z' := by
  obtain ⟨p, a, b, c⟩ := h
  obtain ⟨p', a', b', c'⟩ := h'
  have hpp := PerR_fun hh a a'
  subst hpp
  by_cases q : p = -4
  · rw [b q, b' q]
  · have hp : 0 ≤ p := a.elim (fun y => by have := y.1.1; omega) (fun y => absurd y.1 q)
    rcases (show w = 0 ∨ w = 1 by omega) with y | y
    · rw [(c q).1 y, (c' q).1 y]
    · exact TailR_fun (TailR_in hp hh ((c q).2 y)) ((c' q).2 y)
