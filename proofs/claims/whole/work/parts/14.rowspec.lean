/-! what a row is: each number out of those ahead of it -/
def loN (g : Int → Int) (v : Int) : Nat → Int
  | 0 => 0
  | m + 1 => if g m = v then (m : Int) + 1 else loN g v m
/-- one more than the last place of v among the first m; 0: none -/
def lo (g : Int → Int) (v m : Int) : Int := loN g v m.toNat
theorem lo_0 {g : Int → Int} {v m : Int} (h : m ≤ 0) : lo g v m = 0 := by
  unfold lo
  rw [show m.toNat = 0 by omega]
  rfl
theorem lo_s {g : Int → Int} {v m : Int} (h : 0 ≤ m) : lo g v (m + 1) = if g m = v then m + 1 else lo g v m := by
  unfold lo
  rw [show (m + 1).toNat = m.toNat + 1 by omega, loN, Int.toNat_of_nonneg h]
theorem lo_b {g : Int → Int} {v m : Int} (h : 0 ≤ m) : 0 ≤ lo g v m ∧ lo g v m ≤ m := by
  refine sm_ind (P := fun i => 0 ≤ lo g v i ∧ lo g v i ≤ i) m (by rw [lo_0 (by omega)]; omega) (fun i i0 i1 ih => ?_) h
  rw [lo_s i0]
  split <;> omega
def alN (g : Int → Int) (s : Int) : Nat → Int
  | 0 => 0
  | m + 1 => if s ≤ m ∧ g m = g (m - s) then alN g s m + 1 else 0
/-- how many numbers at the end of the first m are like those s places ahead of them -/
def al (g : Int → Int) (s m : Int) : Int := alN g s m.toNat
theorem al_0 {g : Int → Int} {s m : Int} (h : m ≤ 0) : al g s m = 0 := by
  unfold al
  rw [show m.toNat = 0 by omega]
  rfl
theorem al_s {g : Int → Int} {s m : Int} (h : 0 ≤ m) : al g s (m + 1) = if s ≤ m ∧ g m = g (m - s) then al g s m + 1 else 0 := by
  unfold al
  rw [show (m + 1).toNat = m.toNat + 1 by omega, alN, Int.toNat_of_nonneg h]
theorem al_b {g : Int → Int} {s m : Int} (hs : 0 ≤ s) (h : 0 ≤ m) : 0 ≤ al g s m ∧ al g s m ≤ m ∧ (al g s m = 0 ∨ al g s m ≤ m - s) := by
  refine sm_ind (P := fun i => 0 ≤ al g s i ∧ al g s i ≤ i ∧ (al g s i = 0 ∨ al g s i ≤ i - s)) m (by rw [al_0 (by omega)]; omega) (fun i i0 i1 ih => ?_) h
  rw [al_s i0]
  split <;> omega
def agN (g : Int → Int) (k : Int) : Nat → Int
  | 0 => 1
  | m + 1 => max (agN g k m) (al g ((m : Int) + 1) k / ((m : Int) + 1) + 1)
/-- the most like blocks at the end of the first k, of blocks to m places -/
def ag (g : Int → Int) (k m : Int) : Int := agN g k m.toNat
theorem ag_0 {g : Int → Int} {k : Int} : ag g k 0 = 1 := rfl
theorem ag_s {g : Int → Int} {k m : Int} (h : 0 ≤ m) : ag g k (m + 1) = max (ag g k m) (al g (m + 1) k / (m + 1) + 1) := by
  unfold ag
  rw [show (m + 1).toNat = m.toNat + 1 by omega, agN, Int.toNat_of_nonneg h]
theorem ag_1 {g : Int → Int} {k m : Int} (h : 0 ≤ m) : 1 ≤ ag g k m := by
  refine sm_ind (P := fun i => 1 ≤ ag g k i) m (by rw [ag_0]; omega) (fun i i0 i1 ih => ?_) h
  rw [ag_s i0]
  omega
theorem ag_le {g : Int → Int} {k m : Int} (hk : 0 ≤ k) (h : 0 ≤ m) : ag g k m ≤ k + 1 := by
  refine sm_ind (P := fun i => ag g k i ≤ k + 1) m (by rw [ag_0]; omega) (fun i i0 i1 ih => ?_) h
  have a := al_b (g := g) (s := i + 1) (by omega) hk
  have b := Int.ediv_le_self (b := i + 1) a.1
  rw [ag_s i0]
  omega
theorem ag_stab {g : Int → Int} {k m m' : Int} (h : 0 ≤ m) (hm : m ≤ m') (hs : ∀ s, m < s → s ≤ m' → al g s k < s) (hk : 0 ≤ k) : ag g k m' = ag g k m := by
  have key := sm_ind (P := fun i => m + i ≤ m' → ag g k (m + i) = ag g k m) (m' - m) (fun _ => by rw [Int.add_zero]) (fun i i0 i1 ih hi => by
    rw [show m + (i + 1) = (m + i) + 1 by omega, ag_s (by omega), ih (by omega)]
    have a := al_b (g := g) (s := m + i + 1) (m := k) (by omega) hk
    have b : al g (m + i + 1) k / (m + i + 1) = 0 := Int.ediv_eq_zero_of_lt a.1 (hs _ (by omega) (by omega))
    have c := ag_1 (g := g) (k := k) h
    rw [b]
    omega) (by omega)
  have := key (by omega)
  rwa [show m + (m' - m) = m' by omega] at this
/-- in how many ways v is a sum of numbers of two of the first m places -/
def pc (g : Int → Int) (v m : Int) : Int := sm (fun j => oc g (v - g j) j) m
theorem pc_0 {g : Int → Int} {v m : Int} (h : m ≤ 0) : pc g v m = 0 := sm_0 h
theorem pc_s {g : Int → Int} {v m : Int} (h : 0 ≤ m) : pc g v (m + 1) = pc g v m + oc g (v - g m) m := sm_s h
theorem pc_b {g : Int → Int} {v m : Int} (h : 0 ≤ m) (hm : m ≤ 2000) : 0 ≤ pc g v m ∧ pc g v m ≤ 4000000 := by
  have := sm_b (h := fun j => oc g (v - g j) j) (lo := 0) (hi := 2000) (n := m) (fun j j0 j1 => by have := oc_b (g := g) (v := v - g j) j0; omega) h
  unfold pc
  omega
def VAL (g : Int → Int) (k : Int) : Prop := ∀ j, 0 ≤ j → j < k → 0 ≤ g j ∧ g j ≤ 60000
def St0 (g : Int → Int) (k : Int) : Prop := 2 ≤ k ∧ 1 ≤ g (k - 1) ∧ g (k - 1) ≤ k ∧ 1 ≤ g (k - 2) ∧ g (k - 2) ≤ k ∧ g (k - g (k - 1)) + g (k - g (k - 2)) ≤ 60000
def Nx0 (g : Int → Int) (k v : Int) : Prop := (St0 g k ∧ v = g (k - g (k - 1)) + g (k - g (k - 2))) ∨ (¬ St0 g k ∧ v = -1)
def St1 (g : Int → Int) (k : Int) : Prop := 1 ≤ g (k - 1) ∧ g (k - 1) ≤ k ∧ g (g (k - 1) - 1) + g (k - g (k - 1)) ≤ 60000
def Nx1 (g : Int → Int) (k v : Int) : Prop := (St1 g k ∧ v = g (g (k - 1) - 1) + g (k - g (k - 1))) ∨ (¬ St1 g k ∧ v = -1)
def Nx2 (g : Int → Int) (k v : Int) : Prop := v = if lo g (g (k - 1)) (k - 1) = 0 then 0 else k - lo g (g (k - 1)) (k - 1)
def Nx3 (g : Int → Int) (k v : Int) : Prop := v = ag g k 999
def Nx4 (g : Int → Int) (k v : Int) : Prop := (g (k - 1) < v ∧ v ≤ 60000 ∧ pc g v k = 1 ∧ ∀ w, g (k - 1) < w → w < v → pc g w k ≠ 1) ∨ (v = -1 ∧ ∀ w, g (k - 1) < w → w ≤ 60000 → pc g w k ≠ 1)
def Nx5 (g : Int → Int) (k v : Int) : Prop := v = oc g (g (k - 1)) k
def FreeAt (g : Int → Int) (k v : Int) : Prop := ∀ d, 1 ≤ d → 2 * d ≤ k → 2 * g (k - d) - g (k - 2 * d) ≠ v
def Nx6 (g : Int → Int) (k v : Int) : Prop := 0 ≤ v ∧ v ≤ k ∧ FreeAt g k v ∧ ∀ w, 0 ≤ w → w < v → ¬ FreeAt g k w
/-- the number due behind k numbers in a row of sort S; -1: the row ends -/
def NextR (S : Nat) (g : Int → Int) (k v : Int) : Prop := match S with
  | 0 => Nx0 g k v
  | 1 => Nx1 g k v
  | 2 => Nx2 g k v
  | 3 => Nx3 g k v
  | 4 => Nx4 g k v
  | 5 => Nx5 g k v
  | _ => Nx6 g k v
/-- what is due, as the class has it: what is no number ends the row -/
def DueR (S : Nat) (g : Int → Int) (k z : Int) : Prop := (0 ≤ z ∧ z ≤ 60000 → NextR S g k z) ∧ (¬ (0 ≤ z ∧ z ≤ 60000) → NextR S g k (-1))
/-- the maker's marks and rows of like ones, ahead of the call for place k -/
def MkB (S : Nat) (g : Int → Int) (k : Int) (f e : Int → Int) : Prop := match S with
  | 2 => ∀ v, 0 ≤ v → v ≤ 60000 → f v = lo g v (k - 1)
  | 3 => ∀ s, 1 ≤ s → s ≤ 999 → e s = al g s (k - 1)
  | 4 => ∀ v, 0 ≤ v → v ≤ 60000 → f v = pc g v (k - 1)
  | 5 => ∀ v, 0 ≤ v → v ≤ 60000 → f v = oc g v (k - 1)
  | 6 => ∀ v, 0 ≤ v → v ≤ 60000 → 0 ≤ f v ∧ f v < k
  | _ => True
def covN (h : Int → Int) : Nat → Int → Bool
  | 0, _ => false
  | D + 1, v => decide (h ((D : Int) + 1) = v) || covN h D v
theorem pigeon {h : Int → Int} {D : Nat} {m : Int} (hm : 0 ≤ m) (hc : ∀ v, 0 ≤ v → v < m → ∃ d : Nat, 1 ≤ d ∧ d ≤ D ∧ h d = v) : m ≤ D := by
  have cov : ∀ (E : Nat) (v : Int) (d : Nat), 1 ≤ d → d ≤ E → h d = v → covN h E v = true := by
    intro E
    induction E with
    | zero => intro v d d1 d2; omega
    | succ E ih =>
      intro v d d1 d2 d3
      rw [covN, Bool.or_eq_true]
      rcases Nat.lt_or_ge d (E + 1) with q | q
      · right
        exact ih v d d1 (by omega) d3
      · left
        rw [show ((E : Int) + 1) = (d : Int) by omega]
        exact decide_eq_true d3
  have bound : ∀ E : Nat, sm (fun v => if covN h E v = true then 1 else 0) m ≤ E := by
    intro E
    induction E with
    | zero =>
      have := sm_b (h := fun v => if covN h 0 v = true then 1 else 0) (lo := 0) (hi := 0) (n := m) (fun j _ _ => by rw [if_neg (by simp [covN])]; omega) hm
      omega
    | succ E ih =>
      have a : sm (fun v => if covN h (E + 1) v = true then 1 else 0) m ≤ sm (fun v => (if h ((E : Int) + 1) = v then 1 else 0) + (if covN h E v = true then 1 else 0)) m := sm_mono (fun v _ _ => by
        rw [covN]
        by_cases p : h ((E : Int) + 1) = v
        · rw [decide_eq_true p, if_pos p]
          simp only [Bool.true_or, if_true]
          split <;> omega
        · rw [decide_eq_false p, if_neg p]
          simp only [Bool.false_or]
          omega) hm
      rw [sm_add, sm_pick (w := fun _ => 1) hm] at a
      split at a <;> omega
  have all1 : sm (fun v => if covN h D v = true then 1 else 0) m = m := by
    have := sm_b (h := fun v => if covN h D v = true then 1 else 0) (lo := 1) (hi := 1) (n := m) (fun v v0 v1 => by
      obtain ⟨d, d1, d2, d3⟩ := hc v v0 v1
      rw [if_pos (cov D v d d1 d2 d3)]
      omega) hm
    omega
  have := bound D
  omega
/-- the row of sort S with n beginnings B: its length and its numbers -/
def RowR (S : Nat) (n : Int) (B : Int → Int) (L : Int) (g : Int → Int) : Prop := n ≤ L ∧ 1 ≤ L ∧ L ≤ 2000 ∧ VAL g L ∧ (∀ j, 0 ≤ j → j < n → g j = B j) ∧ (∀ k, n ≤ k → k < L → NextR S g k (g k)) ∧ (L < 2000 → NextR S g L (-1))
