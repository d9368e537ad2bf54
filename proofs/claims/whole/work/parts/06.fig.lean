/-! figures said, counted, told back -/
def FIG (f : Int → Int) (n : Int) : Prop := ∀ j, 0 ≤ j → j < n → 1 ≤ f j ∧ f j ≤ 9
def OutR (f : Int → Int) (n : Int) (t : Nat) (g : Int → Int) : Prop := ∀ (k : Nat), k < t → ∀ s e, RunAt f n k s → s < n → RunE f s n e → e - s ≤ 9 ∧ g (2 * k) = e - s ∧ g (2 * k + 1) = f s
/-- t runs are said, the next one begins at s -/
def SayS (f : Int → Int) (n : Int) (t : Nat) (s : Int) (g : Int → Int) (m : Int) : Prop := m = 2 * t ∧ m ≤ 5000 ∧ RunAt f n t s ∧ OutR f n t g ∧ 0 ≤ s ∧ s ≤ n
def SayR (f : Int → Int) (n : Int) (g : Int → Int) (m : Int) : Prop := ∃ t : Nat, SayS f n t n g m
def SayB (f : Int → Int) (n : Int) : Prop := ∃ (t : Nat) (s e : Int), RunAt f n t s ∧ s < n ∧ RunE f s n e ∧ (9 < e - s ∨ 5000 < 2 * (t : Int) + 2)
theorem SayS_0 {f g : Int → Int} {n : Int} (hn : 0 ≤ n) : SayS f n 0 0 g 0 := ⟨rfl, by omega, rfl, fun k hk => absurd hk (Nat.not_lt_zero k), by omega, hn⟩
theorem SayS_s {f g : Int → Int} {n s e m : Int} {t : Nat} (h : SayS f n t s g m) (hs : s < n) (hr : RunE f s n e) (h9 : e - s ≤ 9) (hm : m + 2 ≤ 5000) : SayS f n (t + 1) e (up (up g m (e - s)) (m + 1) (f s)) (m + 2) := by
  obtain ⟨a1, a2, a3, a4, a5, a6⟩ := h
  refine ⟨by omega, hm, ⟨s, a3, hs, hr⟩, ?_, by have := hr.1; omega, hr.2.1⟩
  intro k hk x y hx hxn hy
  rcases Nat.lt_or_ge k t with q | q
  · have := a4 k q x y hx hxn hy
    rw [up_n _ _ (by omega), up_n _ _ (by omega), up_n _ _ (by omega), up_n _ _ (by omega)]
    exact this
  · have hkt : k = t := by omega
    subst hkt
    have := RunAt_fun _ _ _ hx a3
    subst this
    have := RunE_fun hy hr
    subst this
    rw [up_n _ _ (by omega), show 2 * (k : Int) = m by omega, up_s, up_s]
    exact ⟨h9, rfl, rfl⟩
theorem SayS_b {f g : Int → Int} {n s e m : Int} {t : Nat} (h : SayS f n t s g m) (hs : s < n) (hr : RunE f s n e) (hb : 9 < e - s ∨ 5000 < m + 2) : SayB f n := ⟨t, s, e, h.2.2.1, hs, hr, by have := h.1; omega⟩
/-- the class's loop: a run of run figures stands ahead of i -/
def SayC (f : Int → Int) (n i run : Int) (g : Int → Int) (m : Int) : Prop := ∃ (t : Nat) (s : Int), SayS f n t s g m ∧ s + run = i ∧ 0 ≤ run ∧ (∀ j, s ≤ j → j < i → f j = f s) ∧ (0 < run → i < n ∧ f i = f s)
theorem SayC_0 {f g : Int → Int} {n : Int} (hn : 0 ≤ n) : SayC f n 0 0 g 0 := ⟨0, 0, SayS_0 hn, by omega, by omega, fun j h0 h1 => by omega, fun h => by omega⟩
theorem SayC_m {f g : Int → Int} {n i run m : Int} (h : SayC f n i run g m) : 0 ≤ m ∧ m ≤ 5000 ∧ m % 2 = 0 := by
  obtain ⟨t, s, a1, -⟩ := h
  have := a1.1
  have := a1.2.1
  omega
theorem SayC_c {f g : Int → Int} {n i run m : Int} (h : SayC f n i run g m) (hi : i + 1 < n) (he : f (i + 1) = f i) : SayC f n (i + 1) (run + 1) g m := by
  obtain ⟨t, s, a1, a2, a3, a4, a5⟩ := h
  have hfi : f i = f s := by
    rcases Int.lt_or_le 0 run with q | q
    · exact (a5 q).2
    · rw [show i = s by omega]
  refine ⟨t, s, a1, by omega, by omega, fun j j0 j1 => ?_, fun _ => ⟨hi, by rw [he, hfi]⟩⟩
  rcases Int.lt_or_le j i with q | q
  · exact a4 j j0 q
  · rw [show j = i by omega, hfi]
theorem SayC_r {f g : Int → Int} {n i run m : Int} (h : SayC f n i run g m) (hi : i < n) (he : i + 1 < n → f (i + 1) ≠ f i) : ∃ (t : Nat) (s : Int), SayS f n t s g m ∧ s + run = i ∧ 0 ≤ run ∧ RunE f s n (i + 1) ∧ f i = f s := by
  obtain ⟨t, s, a1, a2, a3, a4, a5⟩ := h
  have hfi : f i = f s := by
    rcases Int.lt_or_le 0 run with q | q
    · exact (a5 q).2
    · rw [show i = s by omega]
  refine ⟨t, s, a1, a2, a3, ⟨by omega, by omega, fun j j0 j1 => ?_, fun h1 => by rw [← hfi]; exact he h1⟩, hfi⟩
  rcases Int.lt_or_le j i with q | q
  · exact a4 j j0 q
  · rw [show j = i by omega, hfi]
theorem SayC_n {f g : Int → Int} {n i run m : Int} (h : SayC f n i run g m) (hi : i < n) (he : i + 1 < n → f (i + 1) ≠ f i) (h9 : run + 1 ≤ 9) (hm : m + 2 ≤ 5000) : SayC f n (i + 1) 0 (up (up g m (run + 1)) (m + 1) (f i)) (m + 2) := by
  obtain ⟨t, s, a1, a2, a3, a4, a5⟩ := SayC_r h hi he
  have := SayS_s a1 (by omega) a4 (by omega) hm
  rw [show i + 1 - s = run + 1 by omega, ← a5] at this
  exact ⟨t + 1, i + 1, this, by omega, by omega, fun j j0 j1 => by omega, fun z => by omega⟩
theorem SayC_b {f g : Int → Int} {n i run m : Int} (h : SayC f n i run g m) (hi : i < n) (he : i + 1 < n → f (i + 1) ≠ f i) (hb : 9 < run + 1 ∨ 5000 < m + 2) : SayB f n := by
  obtain ⟨t, s, a1, a2, a3, a4, a5⟩ := SayC_r h hi he
  exact SayS_b a1 (by omega) a4 (by omega)
theorem SayC_e {f g : Int → Int} {n i run m : Int} (h : SayC f n i run g m) (hi : ¬ i < n) (hin : i ≤ n) : SayR f n g m := by
  obtain ⟨t, s, a1, a2, a3, a4, a5⟩ := h
  have : run = 0 := by
    rcases Int.lt_or_le 0 run with q | q
    · exact absurd (a5 q).1 hi
    · omega
  exact ⟨t, by rw [show n = s by omega] at a1 ⊢; exact a1⟩
/-- how many of the figures 1 to x come at all -/
def tc (f : Int → Int) (n x : Int) : Int := sm (fun y => if 0 < oc f (y + 1) n then 1 else 0) x
theorem tc_0 {f : Int → Int} {n : Int} : tc f n 0 = 0 := sm_0 (by omega)
theorem tc_s {f : Int → Int} {n x : Int} (hx : 0 ≤ x) : tc f n (x + 1) = tc f n x + (if 0 < oc f (x + 1) n then 1 else 0) := sm_s hx
theorem tc_b {f : Int → Int} {n x : Int} (hx : 0 ≤ x) : 0 ≤ tc f n x ∧ tc f n x ≤ x := by
  have h := sm_b (h := fun y => if 0 < oc f (y + 1) n then 1 else 0) (lo := 0) (hi := 1) (n := x) (fun j _ _ => by split <;> omega) hx
  unfold tc
  omega
theorem tc_mono {f : Int → Int} {n x y : Int} (hx : 0 ≤ x) (hxy : x ≤ y) : tc f n x ≤ tc f n y := by
  refine sm_ind (P := fun i => tc f n x ≤ tc f n (x + i)) (y - x) (by rw [Int.add_zero]; omega) (fun i h0 h1 ih => ?_) (by omega) |> fun h => by rwa [show x + (y - x) = y by omega] at h
  rw [show x + (i + 1) = (x + i) + 1 by omega, tc_s (by omega)]
  split <;> omega
def TalS (f : Int → Int) (n x : Int) (g : Int → Int) (m : Int) : Prop := m = 2 * tc f n x ∧ ∀ y, 0 ≤ y → y < x → oc f (y + 1) n ≤ 9 ∧ (0 < oc f (y + 1) n → g (2 * tc f n y) = oc f (y + 1) n ∧ g (2 * tc f n y + 1) = y + 1)
def TalR (f : Int → Int) (n : Int) (g : Int → Int) (m : Int) : Prop := TalS f n 9 g m
def TalB (f : Int → Int) (n : Int) : Prop := ∃ y, 0 ≤ y ∧ y < 9 ∧ 9 < oc f (y + 1) n
theorem TalS_0 {f g : Int → Int} {n : Int} : TalS f n 0 g 0 := ⟨by rw [tc_0]; rfl, fun y h0 h1 => by omega⟩
theorem TalS_m {f g : Int → Int} {n x m : Int} (h : TalS f n x g m) (hx : 0 ≤ x) : 0 ≤ m ∧ m ≤ 2 * x := by
  have := tc_b (f := f) (n := n) hx
  have := h.1
  omega
theorem TalS_z {f g : Int → Int} {n x m : Int} (h : TalS f n x g m) (hx : 0 ≤ x) (hc : oc f (x + 1) n ≤ 0) : TalS f n (x + 1) g m := by
  refine ⟨by rw [tc_s hx, if_neg (by omega), h.1]; omega, fun y y0 y1 => ?_⟩
  rcases Int.lt_or_le y x with q | q
  · exact h.2 y y0 q
  · rw [show y = x by omega]
    exact ⟨by omega, fun z => by omega⟩
theorem TalS_s {f g : Int → Int} {n x m c : Int} (h : TalS f n x g m) (hx : 0 ≤ x) (hc : c = oc f (x + 1) n) (h0 : 0 < c) (h9 : c ≤ 9) : TalS f n (x + 1) (up (up g m c) (m + 1) (x + 1)) (m + 2) := by
  subst hc
  refine ⟨by rw [tc_s hx, if_pos h0, h.1]; omega, fun y y0 y1 => ?_⟩
  have hm := h.1
  rcases Int.lt_or_le y x with q | q
  · have a := h.2 y y0 q
    refine ⟨a.1, fun z => ?_⟩
    have b := tc_mono (f := f) (n := n) (x := y + 1) (y := x) (by omega) (by omega)
    rw [tc_s y0, if_pos z] at b
    rw [up_n _ _ (by omega), up_n _ _ (by omega), up_n _ _ (by omega), up_n _ _ (by omega)]
    exact a.2 z
  · have e : y = x := by omega
    subst e
    refine ⟨h9, fun _ => ?_⟩
    rw [up_n _ _ (by omega), ← hm, up_s, up_s]
    exact ⟨rfl, rfl⟩
/-- where the i-th pair's figures begin, told back -/
def off (f : Int → Int) (i : Int) : Int := sm (fun y => f (2 * y)) i
theorem off_0 {f : Int → Int} : off f 0 = 0 := sm_0 (by omega)
theorem off_s {f : Int → Int} {i : Int} (hi : 0 ≤ i) : off f (i + 1) = off f i + f (2 * i) := sm_s hi
theorem off_mono {f : Int → Int} {n i k : Int} (hf : FIG f n) (hi : 0 ≤ i) (hik : i ≤ k) (hk : 2 * k ≤ n) : off f i ≤ off f k := by
  have h := sm_ind (P := fun d => i + d ≤ k → off f i ≤ off f (i + d)) (k - i) (fun _ => by rw [Int.add_zero]; omega) (fun d h0 h1 ih h2 => by
    have := ih (by omega)
    have := (hf (2 * (i + d)) (by omega) (by omega)).1
    rw [show i + (d + 1) = (i + d) + 1 by omega, off_s (by omega)]
    omega) (by omega)
  have := h (by omega)
  rwa [show i + (k - i) = k by omega] at this
def UnS (f : Int → Int) (n i : Int) (g : Int → Int) (m : Int) : Prop := 0 ≤ i ∧ 2 * i ≤ n ∧ m = off f i ∧ m ≤ 5000 ∧ (∀ y, 1 ≤ y → y < i → f (2 * y + 1) ≠ f (2 * y - 1)) ∧ ∀ y k, 0 ≤ y → y < i → 0 ≤ k → k < f (2 * y) → g (off f y + k) = f (2 * y + 1)
def UnR (f : Int → Int) (n : Int) (g : Int → Int) (m : Int) : Prop := ∃ i, n = 2 * i ∧ UnS f n i g m
def UnB (f : Int → Int) (n : Int) : Prop := n % 2 ≠ 0 ∨ (∃ y, 1 ≤ y ∧ 2 * y + 1 < n ∧ f (2 * y + 1) = f (2 * y - 1)) ∨ ∃ i, n = 2 * i ∧ 5000 < off f i
theorem UnS_0 {f g : Int → Int} {n : Int} (hn : 0 ≤ n) : UnS f n 0 g 0 := ⟨by omega, by omega, by rw [off_0], by omega, fun y h0 h1 => by omega, fun y k h0 h1 => by omega⟩
theorem UnS_s {f g g' : Int → Int} {n i m k : Int} (h : UnS f n i g m) (hf : FIG f n) (hi : 2 * i + 1 < n) (hk : k = f (2 * i)) (hm : m + k ≤ 5000) (hne : 1 ≤ i → f (2 * i + 1) ≠ f (2 * i - 1)) (h1 : ∀ j, j < m → g' j = g j) (h2 : ∀ j, 0 ≤ j → j < k → g' (m + j) = f (2 * i + 1)) : UnS f n (i + 1) g' (m + k) := by
  obtain ⟨a1, a2, a3, a4, a5, a6⟩ := h
  subst hk
  refine ⟨by omega, by omega, by rw [off_s a1, a3], hm, fun y y0 y1 => ?_, fun y j y0 y1 j0 j1 => ?_⟩
  · rcases Int.lt_or_le y i with q | q
    · exact a5 y y0 q
    · rw [show y = i by omega]
      exact hne (by omega)
  · rcases Int.lt_or_le y i with q | q
    · rw [h1 _ ?_]
      · exact a6 y j y0 q j0 j1
      · have := off_mono hf (i := y + 1) (k := i) (by omega) (by omega) (by omega)
        rw [off_s y0] at this
        omega
    · have e : y = i := by omega
      subst e
      rw [← a3]
      exact h2 j j0 j1
theorem SayC_run {f g : Int → Int} {n i run m : Int} (h : SayC f n i run g m) : 0 ≤ run ∧ run ≤ i := by
  obtain ⟨t, s, a1, a2, a3, -⟩ := h
  have := a1.2.2.2.2.1
  omega
/-- said or counted once; said or counted k times -/
def StepR (b : Int) (f : Int → Int) (n : Int) (g : Int → Int) (m : Int) : Prop := (b ≠ 0 ∧ TalR f n g m) ∨ (b = 0 ∧ SayR f n g m)
def StepB (b : Int) (f : Int → Int) (n : Int) : Prop := (b ≠ 0 ∧ TalB f n) ∨ (b = 0 ∧ SayB f n)
def It (b : Int) (f : Int → Int) (n : Int) : Nat → (Int → Int) → Int → Prop
  | 0, g, m => m = n ∧ ∀ j, 0 ≤ j → j < n → g j = f j
  | k + 1, g, m => ∃ g1 m1, It b f n k g1 m1 ∧ StepR b g1 m1 g m
def ItB (b : Int) (f : Int → Int) (n : Int) (k : Nat) : Prop := ∃ (j : Nat) (g1 : Int → Int) (m1 : Int), j < k ∧ It b f n j g1 m1 ∧ StepB b g1 m1
/-- told back k times -/
def UIt (f : Int → Int) (n : Int) : Nat → (Int → Int) → Int → Prop
  | 0, g, m => m = n ∧ ∀ j, 0 ≤ j → j < n → g j = f j
  | k + 1, g, m => ∃ g1 m1, UIt f n k g1 m1 ∧ UnR g1 m1 g m
def BackR (f : Int → Int) (n z : Int) : Prop := 0 ≤ z ∧ z ≤ 20 ∧ ∃ g m, UIt f n z.toNat g m ∧ (z = 20 ∨ UnB g m)
theorem UnS_fig {f g : Int → Int} {n i m : Int} (h : UnS f n i g m) (hf : FIG f n) : FIG g m := by
  obtain ⟨a1, a2, a3, a4, a5, a6⟩ := h
  subst a3
  have key := sm_ind (P := fun q => q ≤ i → ∀ j, 0 ≤ j → j < off f q → 1 ≤ g j ∧ g j ≤ 9) i (fun _ j j0 j1 => by rw [off_0] at j1; omega) (fun q q0 q1 ih q2 j j0 j1 => by
    rcases Int.lt_or_le j (off f q) with r | r
    · exact ih (by omega) j j0 r
    · rw [off_s q0] at j1
      have := a6 q (j - off f q) q0 (by omega) (by omega) (by omega)
      rw [show off f q + (j - off f q) = j by omega] at this
      rw [this]
      have := hf (2 * q + 1) (by omega) (by omega)
      exact this) a1
  exact fun j j0 j1 => key (by omega) j j0 j1
theorem UnR_fig {f g : Int → Int} {n m : Int} (h : UnR f n g m) (hf : FIG f n) : FIG g m := by
  obtain ⟨i, -, h⟩ := h
  exact UnS_fig h hf
