/-! a row is one row -/
theorem NextR_fun {S : Nat} {g : Int → Int} {k v v' : Int} (hS : S < 7) (h : NextR S g k v) (h' : NextR S g k v') : v = v' := by
  rcases (show S = 0 ∨ S = 1 ∨ S = 2 ∨ S = 3 ∨ S = 4 ∨ S = 5 ∨ S = 6 by omega) with q | q | q | q | q | q | q <;> subst q
  · have h : Nx0 g k v := h
    have h' : Nx0 g k v' := h'
    rcases h with ⟨a, b⟩ | ⟨a, b⟩ <;> rcases h' with ⟨c, d⟩ | ⟨c, d⟩
    · rw [b, d]
    · exact absurd a c
    · exact absurd c a
    · rw [b, d]
  · have h : Nx1 g k v := h
    have h' : Nx1 g k v' := h'
    rcases h with ⟨a, b⟩ | ⟨a, b⟩ <;> rcases h' with ⟨c, d⟩ | ⟨c, d⟩
    · rw [b, d]
    · exact absurd a c
    · exact absurd c a
    · rw [b, d]
  · have h : Nx2 g k v := h
    have h' : Nx2 g k v' := h'
    unfold Nx2 at h h'
    rw [h, h']
  · have h : Nx3 g k v := h
    have h' : Nx3 g k v' := h'
    unfold Nx3 at h h'
    rw [h, h']
  · have h : Nx4 g k v := h
    have h' : Nx4 g k v' := h'
    rcases h with ⟨a, b, c, d⟩ | ⟨a, b⟩ <;> rcases h' with ⟨a', b', c', d'⟩ | ⟨a', b'⟩
    · rcases Int.lt_trichotomy v v' with q | q | q
      · exact absurd c (d' v a q)
      · exact q
      · exact absurd c' (d v' a' q)
    · exact absurd c (b' v a b)
    · exact absurd c' (b v' a' b')
    · rw [a, a']
  · have h : Nx5 g k v := h
    have h' : Nx5 g k v' := h'
    unfold Nx5 at h h'
    rw [h, h']
  · have h : Nx6 g k v := h
    have h' : Nx6 g k v' := h'
    obtain ⟨a, b, c, d⟩ := h
    obtain ⟨a', b', c', d'⟩ := h'
    rcases Int.lt_trichotomy v v' with q | q | q
    · exact absurd c (d' v a q)
    · exact q
    · exact absurd c' (d v' a' q)
theorem RowR_end {S : Nat} {n L L' : Int} {B B' g g' : Int → Int} (hS : S < 7) (h : RowR S n B L g) (h' : RowR S n B' L' g') (he : ∀ j, 0 ≤ j → j < L → g j = g' j) (hl : L < L') : False := by
  obtain ⟨a1, a2, a3, a4, a5, a6, a7⟩ := h
  obtain ⟨b1, b2, b3, b4, b5, b6, b7⟩ := h'
  have h1 := NextR_congr (k := L) (Or.inl a2) hS he (a7 (by omega))
  have h2 := NextR_fun hS h1 (b6 L a1 hl)
  have h3 := b4 L (by omega) hl
  omega
theorem RowR_fun {S : Nat} {n L L' : Int} {B B' g g' : Int → Int} (hS : S < 7) (hA : AllowsR S n B) (hB : ∀ j, 0 ≤ j → j < n → B j = B' j) (h : RowR S n B L g) (h' : RowR S n B' L' g') : L = L' ∧ ∀ j, 0 ≤ j → j < L → g j = g' j := by
  have hn := sort_n hS hA
  have hh := h
  have hh' := h'
  obtain ⟨a1, a2, a3, a4, a5, a6, a7⟩ := h
  obtain ⟨b1, b2, b3, b4, b5, b6, b7⟩ := h'
  have key := sm_ind (P := fun i => i ≤ L → i ≤ L' → ∀ j, 0 ≤ j → j < i → g j = g' j) (min L L') (fun _ _ j j0 j1 => by omega) (fun i i0 i1 ih h1 h2 j j0 j1 => by
    have ih := ih (by omega) (by omega)
    rcases Int.lt_or_le j i with q | q
    · exact ih j j0 q
    · have e : j = i := by omega
      subst e
      rcases Int.lt_or_le j n with w | w
      · rw [a5 j j0 w, b5 j j0 w, hB j j0 w]
      · have hk : 1 ≤ j ∨ S = 6 := by
          rcases Int.lt_or_le j 1 with y | y
          · exact Or.inr (few_6 S hS (by have := hA.1; omega))
          · exact Or.inl y
        exact NextR_fun hS (NextR_congr hk hS ih (a6 j w (by omega))) (b6 j w (by omega))) (by omega)
  have key := key (by omega) (by omega)
  rcases Int.lt_trichotomy L L' with q | q | q
  · exact (RowR_end hS hh hh' (fun j j0 j1 => key j j0 (by omega)) q).elim
  · exact ⟨q, fun j j0 j1 => key j j0 (by omega)⟩
  · exact (RowR_end hS hh' hh (fun j j0 j1 => (key j j0 (by omega)).symm) q).elim
