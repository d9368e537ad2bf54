/-! what the calls answer, in words over whole numbers: sums, places, runs, the greatest, where a row goes round -/
def smN (h : Int → Int) : Nat → Int
  | 0 => 0
  | k + 1 => smN h k + h k
/-- h 0 + .. + h (n - 1) -/
def sm (h : Int → Int) (n : Int) : Int := smN h n.toNat
theorem sm_0 {h : Int → Int} {n : Int} (hn : n ≤ 0) : sm h n = 0 := by
  unfold sm
  rw [show n.toNat = 0 by omega]
  rfl
theorem sm_s {h : Int → Int} {n : Int} (hn : 0 ≤ n) : sm h (n + 1) = sm h n + h n := by
  unfold sm
  rw [show (n + 1).toNat = n.toNat + 1 by omega, smN, Int.toNat_of_nonneg hn]
theorem sm_ind {P : Int → Prop} (n : Int) (h0 : P 0) (hs : ∀ i, 0 ≤ i → i < n → P i → P (i + 1)) (hn : 0 ≤ n) : P n := by
  have key : ∀ k : Nat, (k : Int) ≤ n → P k := by
    intro k
    induction k with
    | zero => intro _; exact h0
    | succ k ih => intro hk; have := hs k (by omega) (by omega) (ih (by omega)); rwa [show ((k + 1 : Nat) : Int) = (k : Int) + 1 by omega]
  have := key n.toNat (by omega)
  rwa [Int.toNat_of_nonneg hn] at this
theorem sm_congr {h h' : Int → Int} {n : Int} (hh : ∀ j, 0 ≤ j → j < n → h j = h' j) : sm h n = sm h' n := by
  rcases Int.lt_or_le n 0 with hn | hn
  · rw [sm_0 (by omega), sm_0 (by omega)]
  · refine sm_ind (P := fun i => i ≤ n → sm h i = sm h' i) n (fun _ => by rw [sm_0 (by omega), sm_0 (by omega)]) (fun i h0 h1 ih hi => ?_) hn (Int.le_refl n)
    rw [sm_s h0, sm_s h0, ih (by omega), hh i h0 h1]
theorem sm_b {h : Int → Int} {n lo hi : Int} (hh : ∀ j, 0 ≤ j → j < n → lo ≤ h j ∧ h j ≤ hi) (hn : 0 ≤ n) : lo * n ≤ sm h n ∧ sm h n ≤ hi * n := by
  refine sm_ind (P := fun i => i ≤ n → lo * i ≤ sm h i ∧ sm h i ≤ hi * i) n (fun _ => by rw [sm_0 (by omega)]; simp) (fun i h0 h1 ih hi' => ?_) hn (Int.le_refl n)
  have a := ih (by omega)
  have b := hh i h0 h1
  rw [sm_s h0, Int.mul_add, Int.mul_add, Int.mul_one, Int.mul_one]
  omega
/-- how often v stands among the first n numbers -/
def oc (g : Int → Int) (v n : Int) : Int := sm (fun j => if g j = v then 1 else 0) n
theorem oc_0 {g : Int → Int} {v n : Int} (hn : n ≤ 0) : oc g v n = 0 := sm_0 hn
theorem oc_s {g : Int → Int} {v n : Int} (hn : 0 ≤ n) : oc g v (n + 1) = oc g v n + (if g n = v then 1 else 0) := sm_s hn
theorem oc_congr {g g' : Int → Int} {v n : Int} (hh : ∀ j, 0 ≤ j → j < n → g j = g' j) : oc g v n = oc g' v n := sm_congr (fun j h0 h1 => by rw [hh j h0 h1])
theorem oc_b {g : Int → Int} {v n : Int} (hn : 0 ≤ n) : 0 ≤ oc g v n ∧ oc g v n ≤ n := by
  have h := sm_b (h := fun j => if g j = v then 1 else 0) (lo := 0) (hi := 1) (n := n) (fun j _ _ => by split <;> omega) hn
  unfold oc
  omega
theorem oc_pos {g : Int → Int} {v n : Int} (hn : 0 ≤ n) : oc g v n = 0 ↔ ∀ j, 0 ≤ j → j < n → g j ≠ v := by
  refine sm_ind (P := fun i => oc g v i = 0 ↔ ∀ j, 0 ≤ j → j < i → g j ≠ v) n (by rw [oc_0 (by omega)]; exact ⟨fun _ j h0 h1 => by omega, fun _ => rfl⟩) (fun i h0 h1 ih => ?_) hn
  have hb := oc_b (g := g) (v := v) h0
  rw [oc_s h0]
  constructor
  · intro h j hj0 hj1
    split at h
    · omega
    · rcases Int.lt_or_le j i with hji | hji
      · exact ih.mp (by omega) j hj0 hji
      · rw [show j = i by omega]; assumption
  · intro h
    rw [if_neg (h i h0 (by omega)), ih.mpr (fun j hj0 hj1 => h j hj0 (by omega))]
    rfl
/-- the first place of v among the first n; -4: none -/
def FirstR (g : Int → Int) (n v z : Int) : Prop := (0 ≤ z ∧ z < n ∧ g z = v ∧ ∀ j, 0 ≤ j → j < z → g j ≠ v) ∨ (z = -4 ∧ ∀ j, 0 ≤ j → j < n → g j ≠ v)
/-- z is where the run that begins at s ends, of the places ahead of e -/
def RunE (g : Int → Int) (s e z : Int) : Prop := s < z ∧ z ≤ e ∧ (∀ j, s ≤ j → j < z → g j = g s) ∧ (z < e → g z ≠ g s)
def RunAt (g : Int → Int) (n : Int) : Nat → Int → Prop
  | 0, s => s = 0
  | k + 1, s => ∃ s0, RunAt g n k s0 ∧ s0 < n ∧ RunE g s0 n s
/-- the start of run k; -4: none -/
def StartR (g : Int → Int) (n k z : Int) : Prop := (0 ≤ z ∧ z < n ∧ RunAt g n k.toNat z) ∨ (z = -4 ∧ ∀ s, RunAt g n k.toNat s → ¬ s < n)
/-- the greatest of the first n -/
def MaxR (g : Int → Int) (n z : Int) : Prop := (∃ j, 0 ≤ j ∧ j < n ∧ g j = z) ∧ ∀ j, 0 ≤ j → j < n → g j ≤ z
/-- the longest run of the first n -/
def LongR (g : Int → Int) (n z : Int) : Prop := (∃ s, 0 ≤ s ∧ s + z ≤ n ∧ 1 ≤ z ∧ ∀ j, s ≤ j → j < s + z → g j = g s) ∧ ∀ s y, 0 ≤ s → s + y ≤ n → 1 ≤ y → (∀ j, s ≤ j → j < s + y → g j = g s) → y ≤ z
/-- how many unlike numbers among the first n -/
def dst (g : Int → Int) (n : Int) : Int := sm (fun j => if oc g (g j) j = 0 then 1 else 0) n
theorem dst_0 {g : Int → Int} {n : Int} (hn : n ≤ 0) : dst g n = 0 := sm_0 hn
theorem dst_s {g : Int → Int} {n : Int} (hn : 0 ≤ n) : dst g (n + 1) = dst g n + (if oc g (g n) n = 0 then 1 else 0) := sm_s hn
theorem dst_b {g : Int → Int} {n : Int} (hn : 0 ≤ n) : 0 ≤ dst g n ∧ dst g n ≤ n := by
  have h := sm_b (h := fun j => if oc g (g j) j = 0 then 1 else 0) (lo := 0) (hi := 1) (n := n) (fun j _ _ => by split <;> omega) hn
  unfold dst
  omega
/-- z is the least place from which on each number is p places farther on -/
def TailR (g : Int → Int) (n p z : Int) : Prop := 0 ≤ z ∧ z ≤ n - p ∧ (∀ j, z ≤ j → j < n - p → g j = g (j + p)) ∧ (z = 0 ∨ g (z - 1) ≠ g (z - 1 + p))
/-- p is a period of the row: three of them at least from the tail on -/
def GoesR (g : Int → Int) (n p : Int) : Prop := 1 ≤ p ∧ p ≤ 600 ∧ ∃ z, TailR g n p z ∧ n - z ≥ 3 * p
/-- the least period; -4: none -/
def PerR (g : Int → Int) (n z : Int) : Prop := (GoesR g n z ∧ ∀ p, p < z → ¬ GoesR g n p) ∨ (z = -4 ∧ ∀ p, ¬ GoesR g n p)
theorem RunE_fun {g : Int → Int} {s e z z' : Int} (h : RunE g s e z) (h' : RunE g s e z') : z = z' := by
  obtain ⟨a1, a2, a3, a4⟩ := h
  obtain ⟨b1, b2, b3, b4⟩ := h'
  rcases Int.lt_trichotomy z z' with q | q | q
  · exact absurd (b3 z (by omega) q) (a4 (by omega))
  · exact q
  · exact absurd (a3 z' (by omega) q) (b4 (by omega))
theorem RunAt_fun {g : Int → Int} {n : Int} : ∀ (k : Nat) (s s' : Int), RunAt g n k s → RunAt g n k s' → s = s' := by
  intro k
  induction k with
  | zero => intro s s' h h'; rw [show s = 0 from h, show s' = 0 from h']
  | succ k ih =>
    intro s s' h h'
    obtain ⟨x, h1, h2, h3⟩ := h
    obtain ⟨y, g1, g2, g3⟩ := h'
    have := ih x y h1 g1
    subst this
    exact RunE_fun h3 g3
theorem RunAt_end {g : Int → Int} {n : Int} {t : Nat} {s : Int} (h : RunAt g n t s) (hs : ¬ s < n) : ∀ (d : Nat) (s' : Int), RunAt g n (t + d) s' → ¬ s' < n := by
  intro d
  induction d with
  | zero => intro s' h'; rw [← RunAt_fun t s s' h h']; exact hs
  | succ d ih =>
    intro s' h'
    obtain ⟨x, h1, h2, h3⟩ := h'
    exact absurd h2 (ih x h1)
theorem TailR_fun {g : Int → Int} {n p z z' : Int} (h : TailR g n p z) (h' : TailR g n p z') : z = z' := by
  obtain ⟨a1, a2, a3, a4⟩ := h
  obtain ⟨b1, b2, b3, b4⟩ := h'
  rcases Int.lt_trichotomy z z' with q | q | q
  · rcases b4 with b4 | b4
    · omega
    · exact absurd (a3 (z' - 1) (by omega) (by omega)) b4
  · exact q
  · rcases a4 with a4 | a4
    · omega
    · exact absurd (b3 (z - 1) (by omega) (by omega)) a4
theorem MaxR_s {g : Int → Int} {i k : Int} (hi : 0 ≤ i) (h : (i = 0 ∧ k ≤ g i) ∨ MaxR g i k) : MaxR g (i + 1) (max k (g i)) := by
  rcases h with ⟨h0, hk⟩ | ⟨⟨j, j0, j1, j2⟩, h2⟩
  · subst h0
    refine ⟨⟨0, by omega, by omega, by omega⟩, fun j j0 j1 => ?_⟩
    rw [show j = 0 by omega]
    omega
  · refine ⟨?_, fun x x0 x1 => ?_⟩
    · rcases Int.lt_or_le k (g i) with q | q
      · exact ⟨i, hi, by omega, by omega⟩
      · exact ⟨j, j0, by omega, by omega⟩
    · rcases Int.lt_or_le x i with q | q
      · have := h2 x x0 q
        omega
      · rw [show x = i by omega]
        omega
theorem LongR_s {g : Int → Int} {st en z k : Int} (h0 : 0 ≤ st) (h : (st = 0 ∧ k = 0) ∨ (LongR g st k ∧ g (st - 1) ≠ g st)) (hr : RunE g st en z) : LongR g z (max k (z - st)) := by
  obtain ⟨a1, a2, a3, a4⟩ := hr
  rcases h with ⟨e0, ek⟩ | ⟨⟨⟨s, s0, s1, s2, s3⟩, hm⟩, hb⟩
  · subst e0
    subst ek
    refine ⟨⟨0, by omega, by omega, by omega, fun j j0 j1 => a3 j j0 (by omega)⟩, fun s y x0 x1 x2 x3 => by omega⟩
  · refine ⟨?_, fun x y x0 x1 x2 x3 => ?_⟩
    · rcases Int.lt_or_le k (z - st) with q | q
      · exact ⟨st, h0, by omega, by omega, fun j j0 j1 => a3 j j0 (by omega)⟩
      · exact ⟨s, s0, by omega, by omega, fun j j0 j1 => s3 j j0 (by omega)⟩
    · rcases Int.lt_or_le st x with q | q
      · omega
      · rcases Int.lt_or_le st (x + y) with q2 | q2
        · rcases Int.lt_or_le x st with q3 | q3
          · exfalso
            apply hb
            rw [x3 (st - 1) (by omega) (by omega), x3 st (by omega) (by omega)]
          · omega
        · have := hm x y x0 q2 x2 x3
          omega
theorem up_pre {f1 g : Int → Int} {i z : Int} (he : ∀ j, 0 ≤ j → j < i → f1 j = g j) (hz : z = g i) : ∀ j, 0 ≤ j → j < i + 1 → up f1 i z j = g j := by
  intro j h0 h1
  rcases Int.lt_or_le j i with q | q
  · rw [up_n _ _ (by omega)]
    exact he j h0 q
  · rw [show j = i by omega, up_s, hz]
