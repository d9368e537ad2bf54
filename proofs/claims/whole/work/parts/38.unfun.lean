/-! taking back is one answer -/
theorem off_hit {f : Int → Int} {i j : Int} (hi : 0 ≤ i) (j0 : 0 ≤ j) : j < off f i → ∃ y k, 0 ≤ y ∧ y < i ∧ 0 ≤ k ∧ k < f (2 * y) ∧ j = off f y + k := by
  refine sm_ind (P := fun i => j < off f i → ∃ y k, 0 ≤ y ∧ y < i ∧ 0 ≤ k ∧ k < f (2 * y) ∧ j = off f y + k) i (fun h => by rw [off_0] at h; omega) (fun i i0 i1 ih h => ?_) hi
  rw [off_s i0] at h
  rcases Int.lt_or_le j (off f i) with q | q
  · obtain ⟨y, k, a1, a2, a3, a4, a5⟩ := ih q
    exact ⟨y, k, a1, by omega, a3, a4, a5⟩
  · exact ⟨i, j - off f i, i0, by omega, by omega, by omega, by omega⟩
theorem UnR_fun {f g g' : Int → Int} {n m m' : Int} (h : UnR f n g m) (h' : UnR f n g' m') : m = m' ∧ ∀ j, 0 ≤ j → j < m → g j = g' j := by
  obtain ⟨i, hi, a1, a2, a3, a4, a5, a6⟩ := h
  obtain ⟨i', hi', b1, b2, b3, b4, b5, b6⟩ := h'
  have e : i = i' := by omega
  subst e
  refine ⟨by omega, fun j j0 j1 => ?_⟩
  obtain ⟨y, k, y0, y1, k0, k1, e⟩ := off_hit (f := f) a1 j0 (by omega)
  rw [e, a6 y k y0 y1 k0 k1, b6 y k y0 y1 k0 k1]
theorem UnR_B {f g : Int → Int} {n m : Int} (h : UnR f n g m) (hb : UnB f n) : False := by
  obtain ⟨i, hi, a1, a2, a3, a4, a5, a6⟩ := h
  rcases hb with q | ⟨y, y0, y1, y2⟩ | ⟨i', q1, q2⟩
  · omega
  · exact a5 y y0 (by omega) y2
  · have e : i = i' := by omega
    subst e
    omega
