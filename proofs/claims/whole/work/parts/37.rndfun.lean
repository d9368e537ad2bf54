/-! the other calls' answers are one -/
theorem It_in {b : Int} {f f' : Int → Int} {n : Int} (hh : ∀ j, 0 ≤ j → j < n → f j = f' j) : ∀ (k : Nat) (g : Int → Int) (m : Int), It b f n k g m → It b f' n k g m := by
  intro k
  induction k with
  | zero => intro g m h; exact ⟨h.1, fun j j0 j1 => by rw [h.2 j j0 j1]; exact hh j j0 j1⟩
  | succ k ih => intro g m h; obtain ⟨g1, m1, h1, h2⟩ := h; exact ⟨g1, m1, ih g1 m1 h1, h2⟩
theorem Alike_in {f f' : Int → Int} {n u v : Int} (hh : ∀ j, 0 ≤ j → j < n → f j = f' j) (h : Alike f n u v) : Alike f' n u v := by
  obtain ⟨g, m, g', m', a1, a2, a3, a4⟩ := h
  exact ⟨g, m, g', m', It_in hh _ _ _ a1, It_in hh _ _ _ a2, a3, a4⟩
theorem RoundQ_fun {f f' : Int → Int} {n w z z' : Int} (hw : 0 ≤ w ∧ w ≤ 1) (hh : ∀ j, 0 ≤ j → j < n → f j = f' j) (h : RoundQ f n w z) (h' : RoundQ f' n w z') : z = z' := by
  have hs : ∀ j, 0 ≤ j → j < n → f' j = f j := fun j j0 j1 => (hh j j0 j1).symm
  have h' : RoundQ f n w z' := by
    rcases h' with ⟨a, e⟩ | ⟨x, d, ⟨a1, a2, a3, a4, a5, a6⟩, e⟩
    · exact Or.inl ⟨fun u v u0 u1 u2 q => a u v u0 u1 u2 (Alike_in hh q), e⟩
    · exact Or.inr ⟨x, d, ⟨a1, a2, a3, Alike_in hs a4, fun u u0 u1 q => a5 u u0 u1 (Alike_in hh q), fun u v u0 u1 u2 q => a6 u v u0 u1 u2 (Alike_in hh q)⟩, e⟩
  rcases h with ⟨a, e⟩ | ⟨x, d, a, e1, e2⟩ <;> rcases h' with ⟨c, e'⟩ | ⟨x', d', c, e1', e2'⟩
  · rw [e, e']
  · exact (RoundR_N c a).elim
  · exact (RoundR_N a c).elim
  · obtain ⟨q1, q2⟩ := RoundR_fun a c
    rcases (show w = 0 ∨ w = 1 by omega) with y | y
    · rw [e1 y, e1' y, q1]
    · rw [e2 y, e2' y, q2]
theorem BrkR_fun {g g' nf nf' : Int → Int} {L nn z z' : Int} (hg : ∀ j, 0 ≤ j → j < L → g j = g' j) (hn : ∀ j, 0 ≤ j → j < nn → nf j = nf' j) (h : BrkR g L nf nn z) (h' : BrkR g' L nf' nn z') : z = z' := by
  rcases h with ⟨a, b, c⟩ | ⟨a, b, c, d, e⟩ <;> rcases h' with ⟨a', b', c'⟩ | ⟨a', b', c', d', e'⟩
  · rw [a, a']
  · exact absurd ⟨by omega, by rw [← hg z' a' (by omega), ← hn z' a' b']; exact c z' a' b'⟩ e'
  · exact absurd ⟨by omega, by rw [hg z a (by omega), hn z a b]; exact c' z a b⟩ e
  · rcases Int.lt_trichotomy z z' with q | q | q
    · exact absurd ⟨by omega, by rw [hg z a (by omega), hn z a b]; exact d' z a q⟩ e
    · exact q
    · exact absurd ⟨by omega, by rw [← hg z' a' (by omega), ← hn z' a' b']; exact d z' a' q⟩ e'
