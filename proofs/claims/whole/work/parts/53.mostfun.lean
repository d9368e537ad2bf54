/-! what is most is one answer -/
theorem LongR_in {g g' : Int → Int} {n z : Int} (hh : ∀ j, 0 ≤ j → j < n → g j = g' j) (h : LongR g n z) : LongR g' n z := by
  obtain ⟨⟨s, s0, s1, s2, s3⟩, h2⟩ := h
  refine ⟨⟨s, s0, s1, s2, fun j j0 j1 => ?_⟩, fun s y x0 x1 x2 x3 => h2 s y x0 x1 x2 (fun j j0 j1 => ?_)⟩
  · rw [← hh j (by omega) (by omega), ← hh s s0 (by omega)]
    exact s3 j j0 j1
  · rw [hh j (by omega) (by omega), hh s x0 (by omega)]
    exact x3 j j0 j1
theorem LongR_fun {g g' : Int → Int} {n z z' : Int} (hh : ∀ j, 0 ≤ j → j < n → g j = g' j) (h : LongR g n z) (h' : LongR g' n z') : z = z' := by
  have h1 := LongR_in hh h
  obtain ⟨⟨s, s0, s1, s2, s3⟩, h2⟩ := h1
  obtain ⟨⟨x, x0, x1, x2, x3⟩, h3⟩ := h'
  have a := h3 s z s0 s1 s2 s3
  have b := h2 x z' x0 x1 x2 x3
  omega
theorem dst_congr {g g' : Int → Int} {n : Int} (hh : ∀ j, 0 ≤ j → j < n → g j = g' j) : dst g n = dst g' n := sm_congr (fun j j0 j1 => by rw [hh j j0 j1, oc_congr (g := g) (g' := g') (fun i i0 i1 => hh i i0 (by omega))])
theorem MostQ_fun {g g' : Int → Int} {L k w z z' : Int} (hw : 0 ≤ w ∧ w ≤ 3) (hh : ∀ j, 0 ≤ j → j < L → g j = g' j) (h : MostQ g L k w z) (h' : MostQ g' L k w z') : z = z' := by
  obtain ⟨a0, a1, a2, a3⟩ := h
  obtain ⟨b0, b1, b2, b3⟩ := h'
  have hm : ∀ j, 0 ≤ j → j < min k L → g j = g' j := fun j j0 j1 => hh j j0 (by omega)
  rcases (show w = 0 ∨ w = 1 ∨ w = 2 ∨ w = 3 by omega) with e | e | e | e
  · exact MaxR_fun hm (a0 e) (b0 e)
  · obtain ⟨y, y1, y2⟩ := a1 e
    obtain ⟨x, x1, x2⟩ := b1 e
    have := MaxR_fun hm y1 x1
    subst this
    exact FirstR_fun hh y2 x2
  · exact LongR_fun hm (a2 e) (b2 e)
  · rw [a3 e, b3 e]
    exact dst_congr hm
