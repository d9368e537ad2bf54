/-! what the class's calls answer -/
def regF (rw : Int → Nat) : Nat → Option Nat := fun k => some (rw (k : Int))
theorem regF_at {rw : Int → Nat} {r : Int} (h : 0 ≤ r) : va_rf (regF rw r.toNat) = Value.ref (rw r) := by
  show Value.ref (rw ((r.toNat : Nat) : Int)) = _
  rw [Int.toNat_of_nonneg h]
def RunQ (g : Int → Int) (L k w z : Int) : Prop := ∃ st, StartR g L k st ∧ (st = -4 → z = -4) ∧ (0 ≤ st → (w = 0 → z = g st) ∧ (w = 1 → ∃ en, RunE g st L en ∧ z = en - st) ∧ (w = 2 → z = st))
def MostQ (g : Int → Int) (L k w z : Int) : Prop := (w = 0 → MaxR g (min k L) z) ∧ (w = 1 → ∃ y, MaxR g (min k L) y ∧ FirstR g L y z) ∧ (w = 2 → LongR g (min k L) z) ∧ (w = 3 → z = dst g (min k L))
def AroundQ (g : Int → Int) (L w z : Int) : Prop := ∃ p, PerR g L p ∧ (p = -4 → z = -4) ∧ (p ≠ -4 → (w = 0 → z = p) ∧ (w = 1 → TailR g L p z))
/-- where a row breaks the numbers told; -4: nowhere -/
def BrkR (g : Int → Int) (L : Int) (nf : Int → Int) (nn z : Int) : Prop := (z = -4 ∧ nn ≤ L ∧ ∀ j, 0 ≤ j → j < nn → g j = nf j) ∨ (0 ≤ z ∧ z < nn ∧ z ≤ L ∧ (∀ j, 0 ≤ j → j < z → g j = nf j) ∧ ¬ (z < L ∧ g z = nf z))
def SaidQ (b : Int) (f : Int → Int) (n k i z : Int) : Prop := (ItB b f n k.toNat ∧ z = -2) ∨ ∃ g m, It b f n k.toNat g m ∧ (i = -1 → z = m) ∧ (0 ≤ i ∧ i < m → z = g i) ∧ (m ≤ i → 0 ≤ i → z = -4)
def UnsaidQ (f : Int → Int) (n i z : Int) : Prop := (UnB f n ∧ z = -2) ∨ ∃ g m, UnR f n g m ∧ (i = -1 → z = m) ∧ (0 ≤ i ∧ i < m → z = g i) ∧ (m ≤ i → 0 ≤ i → z = -4)
