/-! the runs of a row have one answer -/
theorem StartR_fun {g g' : Int → Int} {n k z z' : Int} (hh : ∀ j, 0 ≤ j → j < n → g j = g' j) (h : StartR g n k z) (h' : StartR g' n k z') : z = z' := by
  have hs : ∀ j, 0 ≤ j → j < n → g' j = g j := fun j j0 j1 => (hh j j0 j1).symm
  rcases h with ⟨a, b, c⟩ | ⟨a, b⟩ <;> rcases h' with ⟨a', b', c'⟩ | ⟨a', b'⟩
  · exact RunAt_fun _ _ _ (RunAt_congr hh _ _ c) c'
  · exact absurd b (b' z (RunAt_congr hh _ _ c))
  · exact absurd b' (b z' (RunAt_congr hs _ _ c'))
  · rw [a, a']
theorem RunQ_fun {g g' : Int → Int} {L k w z z' : Int} (hw : 0 ≤ w ∧ w ≤ 2) (hh : ∀ j, 0 ≤ j → j < L → g j = g' j) (h : RunQ g L k w z) (h' : RunQ g' L k w z') : z = z' := by
  obtain ⟨s, a, b, c⟩ := h
  obtain ⟨s', a', b', c'⟩ := h'
  have e := StartR_fun hh a a'
  subst e
  rcases a with ⟨x, y, _⟩ | ⟨x, _⟩
  · rcases (show w = 0 ∨ w = 1 ∨ w = 2 by omega) with q | q | q
    · rw [(c x).1 q, (c' x).1 q]
      exact hh s x y
    · obtain ⟨en, h1, h2⟩ := (c x).2.1 q
      obtain ⟨en', h1', h2'⟩ := (c' x).2.1 q
      rw [h2, h2', RunE_fun (RunE_congr x hh h1) h1']
    · rw [(c x).2.2 q, (c' x).2.2 q]
  · rw [b x, b' x]
