theorem lo_congr {g g' : Int → Int} {v m : Int} (hh : ∀ j, 0 ≤ j → j < m → g j = g' j) : lo g v m = lo g' v m := by
  rcases Int.lt_or_le m 0 with q | q
  · rw [lo_0 (by omega), lo_0 (by omega)]
  · refine sm_ind (P := fun i => i ≤ m → lo g v i = lo g' v i) m (fun _ => by rw [lo_0 (by omega), lo_0 (by omega)]) (fun i i0 i1 ih hi => ?_) q (Int.le_refl m)
    rw [lo_s i0, lo_s i0, ih (by omega), hh i i0 i1]
theorem al_congr {g g' : Int → Int} {s m : Int} (hs : 0 ≤ s) (hh : ∀ j, 0 ≤ j → j < m → g j = g' j) : al g s m = al g' s m := by
  rcases Int.lt_or_le m 0 with q | q
  · rw [al_0 (by omega), al_0 (by omega)]
  · refine sm_ind (P := fun i => i ≤ m → al g s i = al g' s i) m (fun _ => by rw [al_0 (by omega), al_0 (by omega)]) (fun i i0 i1 ih hi => ?_) q (Int.le_refl m)
    rw [al_s i0, al_s i0, ih (by omega)]
    by_cases h : s ≤ i
    · rw [hh i i0 i1, hh (i - s) (by omega) (by omega)]
    · rw [if_neg (fun z => h z.1), if_neg (fun z => h z.1)]
theorem ag_congr {g g' : Int → Int} {k m : Int} (hm : 0 ≤ m) (hh : ∀ j, 0 ≤ j → j < k → g j = g' j) : ag g k m = ag g' k m := by
  refine sm_ind (P := fun i => ag g k i = ag g' k i) m rfl (fun i i0 i1 ih => ?_) hm
  rw [ag_s i0, ag_s i0, ih, al_congr (by omega) hh]
theorem pc_congr {g g' : Int → Int} {v m : Int} (hh : ∀ j, 0 ≤ j → j < m → g j = g' j) : pc g v m = pc g' v m := sm_congr (fun j j0 j1 => by rw [hh j j0 j1]; exact oc_congr (fun i i0 i1 => hh i i0 (by omega)))
theorem St0_congr {g g' : Int → Int} {k : Int} (hh : ∀ j, 0 ≤ j → j < k → g j = g' j) (h : St0 g k) : St0 g' k ∧ g (k - g (k - 1)) + g (k - g (k - 2)) = g' (k - g' (k - 1)) + g' (k - g' (k - 2)) := by
  obtain ⟨b1, b2, b3, b4, b5, b6⟩ := h
  have e1 := hh (k - 1) (by omega) (by omega)
  have e2 := hh (k - 2) (by omega) (by omega)
  have e3 := hh (k - g (k - 1)) (by omega) (by omega)
  have e4 := hh (k - g (k - 2)) (by omega) (by omega)
  rw [e1] at b2 b3 b6 e3 ⊢
  rw [e2] at b4 b5 b6 e4 ⊢
  rw [e3, e4] at b6 ⊢
  exact ⟨⟨b1, b2, b3, b4, b5, b6⟩, rfl⟩
theorem St1_congr {g g' : Int → Int} {k : Int} (hk : 1 ≤ k) (hh : ∀ j, 0 ≤ j → j < k → g j = g' j) (h : St1 g k) : St1 g' k ∧ g (g (k - 1) - 1) + g (k - g (k - 1)) = g' (g' (k - 1) - 1) + g' (k - g' (k - 1)) := by
  obtain ⟨b1, b2, b3⟩ := h
  have e1 := hh (k - 1) (by omega) (by omega)
  have e2 := hh (g (k - 1) - 1) (by omega) (by omega)
  have e3 := hh (k - g (k - 1)) (by omega) (by omega)
  rw [e1] at b1 b2 b3 e2 e3 ⊢
  rw [e2, e3] at b3 ⊢
  exact ⟨⟨b1, b2, b3⟩, rfl⟩
theorem Free_congr {g g' : Int → Int} {k v : Int} (hh : ∀ j, 0 ≤ j → j < k → g j = g' j) (h : FreeAt g k v) : FreeAt g' k v := fun d d1 d2 => by
  rw [← hh (k - d) (by omega) (by omega), ← hh (k - 2 * d) (by omega) (by omega)]
  exact h d d1 d2
theorem NextR_congr {S : Nat} {g g' : Int → Int} {k v : Int} (hk : 1 ≤ k ∨ S = 6) (hS : S < 7) (hh : ∀ j, 0 ≤ j → j < k → g j = g' j) (h : NextR S g k v) : NextR S g' k v := by
  have hh' : ∀ j, 0 ≤ j → j < k → g' j = g j := fun j j0 j1 => (hh j j0 j1).symm
  rcases (show S = 0 ∨ S = 1 ∨ S = 2 ∨ S = 3 ∨ S = 4 ∨ S = 5 ∨ S = 6 by omega) with rfl | rfl | rfl | rfl | rfl | rfl | rfl
  · rcases h with ⟨h1, h2⟩ | ⟨h1, h2⟩
    · exact Or.inl ⟨(St0_congr hh h1).1, by rw [h2]; exact (St0_congr hh h1).2⟩
    · exact Or.inr ⟨fun z => h1 (St0_congr hh' z).1, h2⟩
  · rcases h with ⟨h1, h2⟩ | ⟨h1, h2⟩
    · exact Or.inl ⟨(St1_congr (by omega) hh h1).1, by rw [h2]; exact (St1_congr (by omega) hh h1).2⟩
    · exact Or.inr ⟨fun z => h1 (St1_congr (by omega) hh' z).1, h2⟩
  · have h : Nx2 g k v := h
    show Nx2 g' k v
    unfold Nx2 at h ⊢
    rw [h, hh (k - 1) (by omega) (by omega), lo_congr (fun j j0 j1 => hh j j0 (by omega))]
  · have h : Nx3 g k v := h
    show Nx3 g' k v
    unfold Nx3 at h ⊢
    rw [h, ag_congr (by omega) hh]
  · have e := hh (k - 1) (by omega) (by omega)
    rcases h with ⟨h1, h2, h3, h4⟩ | ⟨h1, h2⟩
    · exact Or.inl ⟨by omega, h2, by rw [← pc_congr hh]; exact h3, fun w w0 w1 => by rw [← pc_congr hh]; exact h4 w (by omega) w1⟩
    · exact Or.inr ⟨h1, fun w w0 w1 => by rw [← pc_congr hh]; exact h2 w (by omega) w1⟩
  · have h : Nx5 g k v := h
    show Nx5 g' k v
    unfold Nx5 at h ⊢
    rw [h, hh (k - 1) (by omega) (by omega), oc_congr hh]
  · obtain ⟨h1, h2, h3, h4⟩ := h
    exact ⟨h1, h2, Free_congr hh h3, fun w w0 w1 z => h4 w w0 w1 (Free_congr hh' z)⟩
theorem MkB_congr {S : Nat} {g g' f e : Int → Int} {k : Int} (hS : S < 7) (hh : ∀ j, 0 ≤ j → j < k - 1 → g j = g' j) (h : MkB S g k f e) : MkB S g' k f e := by
  rcases (show S = 0 ∨ S = 1 ∨ S = 2 ∨ S = 3 ∨ S = 4 ∨ S = 5 ∨ S = 6 by omega) with rfl | rfl | rfl | rfl | rfl | rfl | rfl
  · trivial
  · trivial
  · exact fun v v0 v1 => by rw [← lo_congr hh]; exact h v v0 v1
  · exact fun s s0 s1 => by rw [← al_congr (by omega) hh]; exact h s s0 s1
  · exact fun v v0 v1 => by rw [← pc_congr hh]; exact h v v0 v1
  · exact fun v v0 v1 => by rw [← oc_congr hh]; exact h v v0 v1
  · exact h
theorem MkB_1 {S : Nat} {g f e : Int → Int} (hS : S < 7) (hf : ∀ v, 0 ≤ v → v ≤ 60000 → f v = 0) (he : ∀ s, 0 ≤ s → s < 1000 → e s = 0) : MkB S g 1 f e := by
  rcases (show S = 0 ∨ S = 1 ∨ S = 2 ∨ S = 3 ∨ S = 4 ∨ S = 5 ∨ S = 6 by omega) with rfl | rfl | rfl | rfl | rfl | rfl | rfl
  · trivial
  · trivial
  · exact fun v v0 v1 => by rw [hf v v0 v1, lo_0 (by omega)]
  · exact fun s s0 s1 => by rw [he s (by omega) (by omega), al_0 (by omega)]
  · exact fun v v0 v1 => by rw [hf v v0 v1, pc_0 (by omega)]
  · exact fun v v0 v1 => by rw [hf v v0 v1, oc_0 (by omega)]
  · exact fun v v0 v1 => by rw [hf v v0 v1]; omega
theorem few_6 : ∀ i, i < 7 → sFew i ≤ 0 → i = 6 := by decide +kernel
theorem NextR_0 {S : Nat} {g : Int → Int} (hS : S < 7) (h : sFew S ≤ 0) : NextR S g 0 0 := by
  have := few_6 S hS h
  subst this
  exact ⟨by omega, by omega, fun d d1 d2 => by omega, fun w w0 w1 => by omega⟩
theorem sort_n {S : Nat} {n : Int} {B : Int → Int} (hS : S < 7) (h : AllowsR S n B) : 0 ≤ n ∧ n ≤ 6 ∧ ∀ j, 0 ≤ j → j < n → 0 ≤ B j ∧ B j ≤ 99 := by
  have a := sFew_b S hS
  have b := sMost_b S hS
  have c := sLow_b S hS
  have d := sHigh_b S hS
  exact ⟨by have := h.1; omega, by have := h.2.1; omega, fun j j0 j1 => by have := h.2.2.1 j j0 j1; omega⟩
