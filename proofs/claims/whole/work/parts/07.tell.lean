/-! tellers: numbers that tell how many figures of each sort they have, in rising order -/
theorem sm_add {h h' : Int → Int} {n : Int} : sm (fun j => h j + h' j) n = sm h n + sm h' n := by
  rcases Int.lt_or_le n 0 with q | q
  · rw [sm_0 (by omega), sm_0 (by omega), sm_0 (by omega)]; rfl
  · refine sm_ind (P := fun i => sm (fun j => h j + h' j) i = sm h i + sm h' i) n (by rw [sm_0 (by omega), sm_0 (by omega), sm_0 (by omega)]; rfl) (fun i h0 h1 ih => ?_) q
    rw [sm_s h0, sm_s h0, sm_s h0, ih]
    omega
theorem sm_swap {h : Int → Int → Int} {n m : Int} (hm : 0 ≤ m) : sm (fun j => sm (fun k => h j k) n) m = sm (fun k => sm (fun j => h j k) m) n := by
  refine sm_ind (P := fun i => sm (fun j => sm (fun k => h j k) n) i = sm (fun k => sm (fun j => h j k) i) n) m ?_ (fun i h0 h1 ih => ?_) hm
  · rw [sm_0 (by omega)]
    have : sm (fun k => sm (fun j => h j k) 0) n = sm (fun _ => 0) n := sm_congr (fun j _ _ => sm_0 (by omega))
    rw [this]
    rcases Int.lt_or_le n 0 with q | q
    · rw [sm_0 (by omega)]
    · have := sm_b (h := fun _ => (0 : Int)) (lo := 0) (hi := 0) (n := n) (fun _ _ _ => by omega) q
      omega
  · rw [sm_s h0, ih, ← sm_add]
    exact sm_congr (fun k _ _ => (sm_s (h := fun j => h j k) h0).symm)
theorem sm_pick {w : Int → Int} {v n : Int} (hn : 0 ≤ n) : sm (fun j => if v = j then w j else 0) n = if 0 ≤ v ∧ v < n then w v else 0 := by
  refine sm_ind (P := fun i => sm (fun j => if v = j then w j else 0) i = if 0 ≤ v ∧ v < i then w v else 0) n (by rw [sm_0 (by omega), if_neg (by omega)]) (fun i h0 h1 ih => ?_) hn
  rw [sm_s h0, ih]
  by_cases hv : v = i
  · subst hv
    rw [if_neg (by omega), if_pos rfl, if_pos (by omega)]
    omega
  · rw [if_neg hv]
    by_cases h2 : 0 ≤ v ∧ v < i
    · rw [if_pos h2, if_pos (by omega)]
      omega
    · rw [if_neg h2, if_neg (by omega)]
      rfl
theorem sm_mono {h h' : Int → Int} {n : Int} (hh : ∀ j, 0 ≤ j → j < n → h j ≤ h' j) (hn : 0 ≤ n) : sm h n ≤ sm h' n := by
  refine sm_ind (P := fun i => i ≤ n → sm h i ≤ sm h' i) n (fun _ => by rw [sm_0 (by omega), sm_0 (by omega)]; omega) (fun i h0 h1 ih hi => ?_) hn (Int.le_refl n)
  have := ih (by omega)
  have := hh i h0 h1
  rw [sm_s h0, sm_s h0]
  omega
def TellR (d : Int → Int) (b : Int) : Prop := ∀ j, 0 ≤ j → j < b → oc d j b = d j
theorem tell_sum {d : Int → Int} {b : Int} (hb : 0 ≤ b) (hd : ∀ j, 0 ≤ j → j < b → 0 ≤ d j ∧ d j < b) (h : TellR d b) : sm d b = b ∧ sm (fun j => j * d j) b = b := by
  have one : sm (fun _ => 1) b = b := by
    have := sm_b (h := fun _ => (1 : Int)) (lo := 1) (hi := 1) (n := b) (fun _ _ _ => by omega) hb
    omega
  have e1 : sm d b = b := by
    have : sm d b = sm (fun j => sm (fun k => if d k = j then 1 else 0) b) b := sm_congr (fun j h0 h1 => (h j h0 h1).symm)
    rw [this, sm_swap hb]
    rw [show sm (fun k => sm (fun j => if d k = j then 1 else 0) b) b = sm (fun _ => 1) b from sm_congr (fun k h0 h1 => by rw [sm_pick (w := fun _ => 1) hb, if_pos (hd k h0 h1)])]
    exact one
  refine ⟨e1, ?_⟩
  have : sm (fun j => j * d j) b = sm (fun j => sm (fun k => if d k = j then j else 0) b) b := sm_congr (fun j h0 h1 => by
    rw [← h j h0 h1]
    unfold oc
    have key : ∀ q : Int, 0 ≤ q → j * sm (fun k => if d k = j then 1 else 0) q = sm (fun k => if d k = j then j else 0) q := fun q hq => by
      refine sm_ind (P := fun i => j * sm (fun k => if d k = j then 1 else 0) i = sm (fun k => if d k = j then j else 0) i) q (by rw [sm_0 (by omega), sm_0 (by omega)]; omega) (fun i i0 i1 ih => ?_) hq
      rw [sm_s i0, sm_s i0, Int.mul_add, ih]
      split <;> omega
    exact key b hb)
  rw [this, sm_swap hb]
  rw [show sm (fun k => sm (fun j => if d k = j then j else 0) b) b = sm d b from sm_congr (fun k h0 h1 => by rw [sm_pick (w := fun j => j) hb, if_pos (hd k h0 h1)])]
  exact e1
def tellB (d : Int → Int) (b : Int) : Bool := (List.range b.toNat).all (fun j => decide (oc d j b = d j))
theorem tellB_iff {d : Int → Int} {b : Int} : tellB d b = true ↔ TellR d b := by
  unfold tellB TellR
  rw [List.all_eq_true]
  constructor
  · intro h j h0 h1
    have := of_decide_eq_true (h j.toNat (List.mem_range.mpr (by omega)))
    rwa [Int.toNat_of_nonneg h0] at this
  · intro h j hj
    have := List.mem_range.mp hj
    exact decide_eq_true (h j (by omega) (by omega))
theorem TellR_congr {d d' : Int → Int} {b : Int} (hh : ∀ j, 0 ≤ j → j < b → d j = d' j) (h : TellR d b) : TellR d' b := fun j h0 h1 => by rw [← hh j h0 h1, ← h j h0 h1]; exact (oc_congr hh).symm
def cdN (d : Int → Int) : Nat → Int
  | 0 => 0
  | k + 1 => 10 * cdN d k + d k
/-- the figures as a number of ten -/
def cd (d : Int → Int) (n : Int) : Int := cdN d n.toNat
theorem cd_0 {d : Int → Int} : cd d 0 = 0 := rfl
theorem cd_s {d : Int → Int} {n : Int} (hn : 0 ≤ n) : cd d (n + 1) = 10 * cd d n + d n := by
  unfold cd
  rw [show (n + 1).toNat = n.toNat + 1 by omega, cdN, Int.toNat_of_nonneg hn]
theorem cd_congr {d d' : Int → Int} {n : Int} (hn : 0 ≤ n) (hh : ∀ j, 0 ≤ j → j < n → d j = d' j) : cd d n = cd d' n := by
  refine sm_ind (P := fun i => i ≤ n → cd d i = cd d' i) n (fun _ => rfl) (fun i h0 h1 ih hi => ?_) hn (Int.le_refl n)
  rw [cd_s h0, cd_s h0, ih (by omega), hh i h0 h1]
/-- the tellers that begin with the first p figures of d, k figures are wanting -/
def TLs (b : Int) : Nat → Int → (Int → Int) → List Int
  | 0, _, d => if tellB d b then [cd d b] else []
  | k + 1, p, d => (List.range b.toNat).flatMap (fun (x : Nat) => TLs b k (p + 1) (up d p (x : Int)))
def TLp (b : Int) (k : Nat) (p : Int) (d : Int → Int) (x : Int) : List Int := (List.range x.toNat).flatMap (fun (y : Nat) => TLs b k (p + 1) (up d p (y : Int)))
theorem TLp_0 {b : Int} {k : Nat} {p : Int} {d : Int → Int} : TLp b k p d 0 = [] := rfl
theorem TLp_s {b : Int} {k : Nat} {p x : Int} {d : Int → Int} (hx : 0 ≤ x) : TLp b k p d (x + 1) = TLp b k p d x ++ TLs b k (p + 1) (up d p x) := by
  unfold TLp
  rw [show (x + 1).toNat = x.toNat + 1 by omega, List.range_succ, List.flatMap_append]
  simp only [List.flatMap_cons, List.flatMap_nil, List.append_nil]
  rw [Int.toNat_of_nonneg hx]
theorem TLs_congr {b : Int} : ∀ (k : Nat) (p : Int) (d d' : Int → Int), 0 ≤ p → p + k = b → (∀ j, 0 ≤ j → j < p → d j = d' j) → TLs b k p d = TLs b k p d' := by
  intro k
  induction k with
  | zero =>
    intro p d d' h0 hp hh
    have hh' : ∀ j, 0 ≤ j → j < b → d j = d' j := fun j j0 j1 => hh j j0 (by omega)
    have e : tellB d b = tellB d' b := by
      rw [Bool.eq_iff_iff, tellB_iff, tellB_iff]
      exact ⟨TellR_congr hh', TellR_congr (fun j j0 j1 => (hh' j j0 j1).symm)⟩
    rw [TLs, TLs, e, cd_congr (by omega) hh']
  | succ k ih =>
    intro p d d' h0 hp hh
    rw [TLs, TLs]
    congr 1
    funext x
    refine ih (p + 1) _ _ (by omega) (by omega) (fun j j0 j1 => ?_)
    by_cases hj : j = p
    · rw [hj, up_s, up_s]
    · rw [up_n _ _ hj, up_n _ _ hj]
      exact hh j j0 (by omega)
theorem sm_up {d : Int → Int} {p x : Int} (w : Int → Int → Int) (hp : 0 ≤ p) : sm (fun j => w j (up d p x j)) (p + 1) = sm (fun j => w j (d j)) p + w p x := by
  rw [sm_s hp, up_s]
  congr 1
  exact sm_congr (fun j j0 j1 => by rw [up_n _ _ (by omega)])
/-- what is over the base leads to no teller -/
theorem TLs_over {b : Int} (hb : 0 ≤ b) : ∀ (k : Nat) (p : Int) (d : Int → Int), 0 ≤ p → p + k = b → (∀ j, 0 ≤ j → j < p → 0 ≤ d j ∧ d j < b) → (b < sm d p ∨ b < sm (fun j => j * d j) p) → TLs b k p d = [] := by
  intro k
  induction k with
  | zero =>
    intro p d h0 hp hd ho
    have hpb : p = b := by omega
    subst hpb
    rw [TLs]
    split
    · rename_i h
      have := tell_sum hb hd (tellB_iff.mp h)
      omega
    · rfl
  | succ k ih =>
    intro p d h0 hp hd ho
    rw [TLs]
    refine List.flatMap_eq_nil_iff.mpr (fun x hx => ?_)
    have hx1 := List.mem_range.mp hx
    refine ih (p + 1) _ (by omega) (by omega) (fun j j0 j1 => ?_) ?_
    · by_cases hj : j = p
      · rw [hj, up_s]
        omega
      · rw [up_n _ _ hj]
        exact hd j j0 (by omega)
    · have e1 := sm_up (d := d) (p := p) (x := (x : Int)) (fun _ y => y) h0
      have e2 := sm_up (d := d) (p := p) (x := (x : Int)) (fun j y => j * y) h0
      have e3 : 0 ≤ p * (x : Int) := Int.mul_nonneg h0 (by omega)
      rcases ho with ho | ho
      · left
        have : sm (up d p x) (p + 1) = sm d p + x := e1
        omega
      · right
        have : sm (fun j => j * up d p x j) (p + 1) = sm (fun j => j * d j) p + p * x := e2
        omega
theorem TLp_rest {b : Int} (hb : 0 ≤ b) {k : Nat} {p x : Int} {d : Int → Int} (h0 : 0 ≤ p) (hp : p + (k + 1 : Nat) = b) (hd : ∀ j, 0 ≤ j → j < p → 0 ≤ d j ∧ d j < b) (hx : 0 ≤ x) (hxb : x ≤ b) (ho : x = b ∨ b < sm d p + x ∨ b < sm (fun j => j * d j) p + x * p) : TLs b (k + 1) p d = TLp b k p d x := by
  have key := sm_ind (P := fun i => x + i ≤ b → TLp b k p d (x + i) = TLp b k p d x) (b - x) (fun _ => by rw [Int.add_zero]) (fun i i0 i1 ih hi => by
    rw [show x + (i + 1) = (x + i) + 1 by omega, TLp_s (by omega), ih (by omega), TLs_over hb k (p + 1) _ (by omega) (by omega) (fun j j0 j1 => by
      by_cases hj : j = p
      · rw [hj, up_s]
        omega
      · rw [up_n _ _ hj]
        exact hd j j0 (by omega)) ?_, List.append_nil]
    have e1 : sm (up d p (x + i)) (p + 1) = sm d p + (x + i) := sm_up (fun _ y => y) h0
    have e2 : sm (fun j => j * up d p (x + i) j) (p + 1) = sm (fun j => j * d j) p + p * (x + i) := sm_up (fun j y => j * y) h0
    rcases ho with ho | ho | ho
    · omega
    · left
      omega
    · right
      rw [e2, Int.mul_add, Int.mul_comm p x]
      have : 0 ≤ p * i := Int.mul_nonneg h0 i0
      omega) (by omega)
  have := key (by omega)
  rw [show x + (b - x) = b by omega] at this
  rw [← this]
  rfl
/-- the i-th of a list, else a -/
def pick (L : List Int) (i a : Int) : Int := if 0 ≤ i then (L[i.toNat]?).getD a else a
theorem pick_nil {i a : Int} : pick [] i a = a := by
  unfold pick
  split <;> rfl
theorem pick_one {i a x : Int} : pick [x] i a = if i = 0 then x else a := by
  unfold pick
  by_cases h : i = 0
  · subst h
    rfl
  · rw [if_neg h]
    by_cases h2 : 0 ≤ i
    · rw [if_pos h2, List.getElem?_eq_none (by simp; omega)]
      rfl
    · rw [if_neg h2]
theorem pick_app {L M : List Int} {i a : Int} : pick (L ++ M) i a = pick M (i - L.length) (pick L i a) := by
  unfold pick
  by_cases h : 0 ≤ i
  · rw [if_pos h, if_pos h]
    by_cases h2 : i.toNat < L.length
    · rw [List.getElem?_append_left h2, if_neg (by omega), List.getElem?_eq_getElem h2]
    · rw [List.getElem?_append_right (by omega), if_pos (by omega), List.getElem?_eq_none (l := L) (by omega), show (i - (L.length : Int)).toNat = i.toNat - L.length by omega]
      rfl
  · rw [if_neg h, if_neg h, if_neg (by omega)]
theorem TLs_len {b : Int} (hb : 0 ≤ b) (hb2 : b ≤ 10) : ∀ (k : Nat) (p : Int) (d : Int → Int), ((TLs b k p d).length : Int) ≤ 10 ^ k := by
  intro k
  induction k with
  | zero =>
    intro p d
    rw [TLs]
    split <;> simp
  | succ k ih =>
    intro p d
    rw [TLs]
    have key : ∀ n : Nat, (((List.range n).flatMap (fun (x : Nat) => TLs b k (p + 1) (up d p (x : Int)))).length : Int) ≤ n * 10 ^ k := by
      intro n
      induction n with
      | zero => simp
      | succ n ihn =>
        rw [List.range_succ, List.flatMap_append]
        simp only [List.flatMap_cons, List.flatMap_nil, List.append_nil, List.length_append, Int.natCast_add]
        have := ih (p + 1) (up d p n)
        rw [Int.add_mul]
        omega
    have h1 := key b.toNat
    have h2 : (b.toNat : Int) * 10 ^ k ≤ 10 * 10 ^ k := Int.mul_le_mul_of_nonneg_right (by omega) (Int.pow_nonneg (by omega))
    rw [Int.pow_succ, Int.mul_comm]
    omega
