/-! the model's tellers: one digit after another, up and back -/
theorem TLp_congr {b : Int} {k : Nat} {p x : Int} {d d' : Int → Int} (h0 : 0 ≤ p) (hp : p + (k + 1 : Nat) = b) (hh : ∀ j, 0 ≤ j → j < p → d j = d' j) : TLp b k p d x = TLp b k p d' x := by
  unfold TLp
  congr 1
  funext y
  refine TLs_congr k (p + 1) _ _ (by omega) (by omega) (fun j j0 j1 => ?_)
  by_cases hj : j = p
  · rw [hj, up_s, up_s]
  · rw [up_n _ _ hj, up_n _ _ hj]
    exact hh j j0 (by omega)
def dn (b : Int) (d : Int → Int) : Nat → List Int
  | 0 => []
  | y + 1 => dn b d y ++ TLp b (b - 1 - y).toNat y d (d y)
theorem dn_congr {b : Int} {d d' : Int → Int} : ∀ (y : Nat), (y : Int) ≤ b → (∀ j, 0 ≤ j → j < (y : Int) → d j = d' j) → dn b d y = dn b d' y := by
  intro y
  induction y with
  | zero => intro _ _; rfl
  | succ y ih =>
    intro hy hh
    rw [dn, dn, ih (by omega) (fun j j0 j1 => hh j j0 (by omega)), hh y (by omega) (by omega), TLp_congr (d' := d') (by omega) (by omega) (fun j j0 j1 => hh j j0 (by omega))]
theorem up_self {d : Int → Int} {p : Int} : up d p (d p) = d := by
  funext j
  by_cases h : j = p
  · rw [h, up_s]
  · rw [up_n _ _ h]
theorem dn_join {b : Int} {d : Int → Int} {y : Nat} (hd : 0 ≤ d y) : dn b d (y + 1) ++ TLs b (b - 1 - y).toNat (y + 1) d = dn b d y ++ TLp b (b - 1 - y).toNat y d (d y + 1) := by
  rw [dn, TLp_s hd, List.append_assoc, up_self]
theorem pre_tl {b : Int} {k : Nat} {p v : Int} {d : Int → Int} (hv : 0 ≤ v) (hvb : v ≤ b) : TLp b k p d v <+: TLs b (k + 1) p d := by
  have key := sm_ind (P := fun i => v + i ≤ b → TLp b k p d v <+: TLp b k p d (v + i)) (b - v) (fun _ => by rw [Int.add_zero]; exact List.prefix_refl _) (fun i i0 i1 ih hi => by
    rw [show v + (i + 1) = (v + i) + 1 by omega, TLp_s (by omega)]
    exact (ih (by omega)).trans (List.prefix_append _ _)) (by omega)
  have := key (by omega)
  rw [show v + (b - v) = b by omega] at this
  exact this
theorem pre_app {L M N : List Int} (h : M <+: N) : L ++ M <+: L ++ N := by
  obtain ⟨t, ht⟩ := h
  exact ⟨t, by rw [List.append_assoc, ht]⟩
theorem pre_dn {b : Int} {d : Int → Int} (hb : 0 ≤ b) : ∀ (y : Nat), (y : Int) ≤ b → (∀ j, 0 ≤ j → j < (y : Int) → 0 ≤ d j ∧ d j < b) → dn b d y ++ TLs b (b - y).toNat y d <+: LT b := by
  intro y
  induction y with
  | zero =>
    intro _ _
    rw [dn, List.nil_append, ← LT_any hb d]
    rw [show (b - ((0 : Nat) : Int)).toNat = b.toNat by omega]
    exact List.prefix_refl _
  | succ y ih =>
    intro hy hd
    have h1 := ih (by omega) (fun j j0 j1 => hd j j0 (by omega))
    have h2 := hd y (by omega) (by omega)
    rw [show (b - ((y + 1 : Nat) : Int)).toNat = (b - 1 - y).toNat by omega, show ((y + 1 : Nat) : Int) = (y : Int) + 1 by omega, dn_join h2.1]
    refine List.IsPrefix.trans (pre_app ?_) h1
    rw [show (b - (y : Int)).toNat = (b - 1 - y).toNat + 1 by omega]
    exact pre_tl (by omega) (by omega)
def wN : Nat → Int
  | 0 => 1
  | k + 1 => 16 * wN k
theorem wN_pos : ∀ k, 1 ≤ wN k := by
  intro k
  induction k with
  | zero => decide
  | succ k ih => rw [wN]; omega
def wt (b y : Int) : Int := wN (b - y).toNat
theorem wt_s {b y : Int} (h : y < b) : wt b y = 16 * wt b (y + 1) := by
  unfold wt
  rw [show (b - y).toNat = (b - (y + 1)).toNat + 1 by omega, wN]
theorem wt_pos {b y : Int} : 1 ≤ wt b y := wN_pos _
def ps (b : Int) (d : Int → Int) (x : Int) : Int := sm (fun j => d j * wt b j) x
/-- how far the search has still to go -/
def tmu (b : Int) (d : Int → Int) (x : Int) : Int := if x < 0 then 0 else 16 * wt b 0 + 100 - (ps b d x + (d x + 1) * wt b x + x)
theorem ps_b {b : Int} {d : Int → Int} (hb : 2 ≤ b ∧ b ≤ 10) {x : Int} (h0 : 0 ≤ x) (hx : x ≤ b) (hd : ∀ j, 0 ≤ j → j < x → 0 ≤ d j ∧ d j < b) : ps b d x + 16 * wt b x ≤ 16 * wt b 0 := by
  refine sm_ind (P := fun i => i ≤ x → ps b d i + 16 * wt b i ≤ 16 * wt b 0) x (fun _ => by unfold ps; rw [sm_0 (by omega)]; omega) (fun i i0 i1 ih hi => ?_) h0 (Int.le_refl x)
  have h1 := ih (by omega)
  have h2 := hd i i0 (by omega)
  have h3 := wt_s (b := b) (y := i) (by omega)
  have h4 : d i * wt b i ≤ 9 * wt b i := Int.mul_le_mul_of_nonneg_right (by omega) (by have := wt_pos (b := b) (y := i); omega)
  unfold ps at h1 ⊢
  have e : sm (fun j => d j * wt b j) (i + 1) = sm (fun j => d j * wt b j) i + d i * wt b i := sm_s i0
  have h5 := wt_pos (b := b) (y := i + 1)
  rw [e]
  omega
/-- the search: at place x, with what was found -/
def TelS (b i : Int) (d : Int → Int) (x su n : Int) : Prop := (-1 ≤ x ∧ x < b ∧ 0 ≤ n ∧ ¬ (0 ≤ i ∧ i < n)) ∧ (x < 0 → n = ((LT b).length : Int)) ∧ (0 ≤ x → (su = sm d x ∧ 0 ≤ su ∧ su ≤ b ∧ -1 ≤ d x ∧ d x < b) ∧ (∀ j, 0 ≤ j → j < x → 0 ≤ d j ∧ d j < b) ∧ n = ((dn b d x.toNat ++ TLp b (b - 1 - x).toNat x d (d x + 1)).length : Int))
theorem TelS_n {b i x su n : Int} {d : Int → Int} (hb : 2 ≤ b ∧ b ≤ 10) (h : TelS b i d x su n) : n ≤ 1000000000 := by
  obtain ⟨h1, h2, h3⟩ := h
  have hl := LT_len hb
  rcases Int.lt_or_le x 0 with q | q
  · have := h2 q
    omega
  · obtain ⟨a1, a2, a3⟩ := h3 q
    have p1 := pre_dn (d := d) (show 0 ≤ b by omega) x.toNat (by omega) (fun j j0 j1 => a2 j j0 (by omega))
    rw [Int.toNat_of_nonneg q, show (b - x).toNat = (b - 1 - x).toNat + 1 by omega] at p1
    have p2 : dn b d x.toNat ++ TLp b (b - 1 - x).toNat x d (d x + 1) <+: LT b := List.IsPrefix.trans (pre_app (pre_tl (by omega) (by omega))) p1
    have := p2.length_le
    omega
theorem tmu_0 {b i x su n : Int} {d : Int → Int} (hb : 2 ≤ b ∧ b ≤ 10) (h : TelS b i d x su n) : 0 ≤ tmu b d x := by
  unfold tmu
  split
  · omega
  · obtain ⟨h1, h2, h3⟩ := h
    obtain ⟨a1, a2, a3⟩ := h3 (by omega)
    have b1 := ps_b hb (x := x) (by omega) (by omega) a2
    have b2 : (d x + 1) * wt b x ≤ 10 * wt b x := Int.mul_le_mul_of_nonneg_right (by omega) (by have := wt_pos (b := b) (y := x); omega)
    have := wt_pos (b := b) (y := x)
    omega
theorem ps_congr {b : Int} {d d' : Int → Int} {x : Int} (hh : ∀ j, 0 ≤ j → j < x → d j = d' j) : ps b d x = ps b d' x := sm_congr (fun j j0 j1 => by rw [hh j j0 j1])
theorem TelS_0 {b i : Int} {d : Int → Int} (hb : 2 ≤ b ∧ b ≤ 10) (hd : d 0 = -1) : TelS b i d 0 0 0 := by
  refine ⟨by omega, fun q => by omega, fun _ => ⟨⟨by rw [sm_0 (by omega)], by omega, by omega, by omega, by omega⟩, fun j j0 j1 => by omega, ?_⟩⟩
  rw [hd]
  rfl
theorem TelS_pop {b i x su n su' : Int} {d : Int → Int} (hb : 2 ≤ b ∧ b ≤ 10) (h : TelS b i d x su n) (hx : 0 ≤ x) (hc : d x + 1 = b ∨ b < su + (d x + 1)) (hs : 1 ≤ x → su' = su - d (x - 1)) : TelS b i (up d x (d x + 1)) (x - 1) su' n ∧ tmu b (up d x (d x + 1)) (x - 1) < tmu b d x := by
  have hm := tmu_0 hb h
  obtain ⟨h1, -, h3⟩ := h
  obtain ⟨⟨a1, a1b, a1c, a1d, a1e⟩, a2, a3⟩ := h3 hx
  have hbx : (b - x).toNat = (b - 1 - x).toNat + 1 := by omega
  have hrest : TLs b (b - x).toNat x d = TLp b (b - 1 - x).toNat x d (d x + 1) := by
    rw [hbx]
    exact TLp_rest (by omega) hx (by omega) a2 (by omega) (by omega) (by omega)
  rcases Int.lt_or_le 0 x with q | q
  · have hy : ∃ y : Nat, x = (y : Int) + 1 := ⟨(x - 1).toNat, by omega⟩
    obtain ⟨y, hy⟩ := hy
    have hxy : x - 1 = y := by omega
    have hdy := a2 (x - 1) (by omega) (by omega)
    have hag : ∀ j, 0 ≤ j → j < x → d j = up d x (d x + 1) j := fun j j0 j1 => (up_n _ _ (by omega)).symm
    have hsm : sm d x = sm d (x - 1) + d (x - 1) := by
      have := sm_s (h := d) (n := x - 1) (by omega)
      rwa [show x - 1 + 1 = x by omega] at this
    have hsp := sm_b (h := d) (lo := 0) (hi := b) (n := x - 1) (fun j j0 j1 => by have := a2 j j0 (by omega); omega) (by omega)
    have hs' := hs (by omega)
    refine ⟨⟨by omega, fun z => by omega, fun _ => ⟨⟨?_, by omega, by omega, ?_, ?_⟩, fun j j0 j1 => ?_, ?_⟩⟩, ?_⟩
    · rw [hs', a1, hsm, sm_congr (h := d) (h' := up d x (d x + 1)) (n := x - 1) (fun j j0 j1 => hag j j0 (by omega))]
      omega
    · rw [← hag (x - 1) (by omega) (by omega)]
      omega
    · rw [← hag (x - 1) (by omega) (by omega)]
      exact hdy.2
    · rw [← hag j j0 (by omega)]
      exact a2 j j0 (by omega)
    · rw [a3, ← hrest, ← hag (x - 1) (by omega) (by omega), ← dn_congr (d := d) (x - 1).toNat (by omega) (fun j j0 j1 => hag j j0 (by omega)), ← TLp_congr (d := d) (by omega) (by omega) (fun j j0 j1 => hag j j0 (by omega))]
      congr 2
      rw [show x.toNat = y + 1 by omega, show (x - 1).toNat = y by omega, show (b - 1 - (x - 1)).toNat = (b - 1 - y).toNat by omega, show (b - x).toNat = (b - 1 - y).toNat by omega, hxy, hy]
      have hj := dn_join (b := b) (d := d) (y := y) (by rw [← hxy]; exact hdy.1)
      exact hj
    · unfold tmu at hm ⊢
      rw [if_neg (by omega)] at hm ⊢
      rw [if_neg (by omega), ← ps_congr (d := d) (fun j j0 j1 => hag j j0 (by omega)), ← hag (x - 1) (by omega) (by omega)]
      have e1 : ps b d x = ps b d (x - 1) + d (x - 1) * wt b (x - 1) := by
        have := sm_s (h := fun j => d j * wt b j) (n := x - 1) (by omega)
        rw [show x - 1 + 1 = x by omega] at this
        exact this
      have e2 := wt_s (b := b) (y := x - 1) (by omega)
      rw [show x - 1 + 1 = x by omega] at e2
      have e3 : (d (x - 1) + 1) * wt b (x - 1) = d (x - 1) * wt b (x - 1) + wt b (x - 1) := by rw [Int.add_mul, Int.one_mul]
      have e4 : (d x + 1) * wt b x ≤ 10 * wt b x := Int.mul_le_mul_of_nonneg_right (by omega) (by have := wt_pos (b := b) (y := x); omega)
      have e5 := wt_pos (b := b) (y := x)
      omega
  · have hx0 : x = 0 := by omega
    subst hx0
    refine ⟨⟨by omega, fun _ => ?_, fun z => by omega⟩, ?_⟩
    · rw [a3, ← hrest]
      show ((dn b d 0 ++ _).length : Int) = _
      rw [dn, List.nil_append, show (b - 0).toNat = b.toNat by omega, LT_any (by omega)]
    · have hb9 := ps_b hb (d := d) (x := 0) (by omega) (by omega) (fun j j0 j1 => by omega)
      have b2 : (d 0 + 1) * wt b 0 ≤ 10 * wt b 0 := Int.mul_le_mul_of_nonneg_right (by omega) (by have := wt_pos (b := b) (y := 0); omega)
      have := wt_pos (b := b) (y := 0)
      unfold tmu
      rw [if_pos (by omega), if_neg (by omega)]
      omega
theorem TelS_push {b i x su n : Int} {d : Int → Int} (hb : 2 ≤ b ∧ b ≤ 10) (h : TelS b i d x su n) (hx : 0 ≤ x) (hc : ¬ d x + 1 = b) (hc2 : su + (d x + 1) ≤ b) (hxb : x < b - 1) : TelS b i (up (up d x (d x + 1)) (x + 1) (-1)) (x + 1) (su + (d x + 1)) n ∧ tmu b (up (up d x (d x + 1)) (x + 1) (-1)) (x + 1) < tmu b d x := by
  obtain ⟨h1, -, h3⟩ := h
  obtain ⟨⟨a1, a1b, a1c, a1d, a1e⟩, a2, a3⟩ := h3 hx
  have hag : ∀ j, 0 ≤ j → j < x → d j = up (up d x (d x + 1)) (x + 1) (-1) j := fun j j0 j1 => by rw [up_n _ _ (by omega), up_n _ _ (by omega)]
  have hat : up (up d x (d x + 1)) (x + 1) (-1) x = d x + 1 := by rw [up_n _ _ (by omega), up_s]
  have hat2 : up (up d x (d x + 1)) (x + 1) (-1) (x + 1) = -1 := up_s _ _ _
  refine ⟨⟨by omega, fun z => by omega, fun _ => ⟨⟨?_, by omega, by omega, by omega, by omega⟩, fun j j0 j1 => ?_, ?_⟩⟩, ?_⟩
  · rw [sm_s hx, hat, ← sm_congr (h := d) (fun j j0 j1 => hag j j0 j1), ← a1]
  · rcases Int.lt_or_le j x with q | q
    · rw [← hag j j0 q]
      exact a2 j j0 q
    · rw [show j = x by omega, hat]
      omega
  · rw [hat2, show (x + 1).toNat = x.toNat + 1 by omega, dn, Int.toNat_of_nonneg hx, hat, ← dn_congr (d := d) x.toNat (by omega) (fun j j0 j1 => hag j j0 (by omega)), ← TLp_congr (d := d) (x := d x + 1) (by omega) (by omega) hag, show (-1 : Int) + 1 = 0 by omega, TLp_0, List.append_nil]
    exact a3
  · unfold tmu
    rw [if_neg (by omega), if_neg (by omega), hat2]
    have e1 : ps b (up (up d x (d x + 1)) (x + 1) (-1)) (x + 1) = ps b d x + (d x + 1) * wt b x := by
      have e : sm (fun j => up (up d x (d x + 1)) (x + 1) (-1) j * wt b j) (x + 1) = sm (fun j => up (up d x (d x + 1)) (x + 1) (-1) j * wt b j) x + up (up d x (d x + 1)) (x + 1) (-1) x * wt b x := sm_s hx
      unfold ps
      rw [e, hat]
      congr 1
      exact (sm_congr (fun j j0 j1 => by rw [hag j j0 j1])).symm
    rw [e1]
    omega
theorem TelS_leaf {b i x su n : Int} {d : Int → Int} (h : TelS b i d x su n) (hx : x = b - 1) (hb : 2 ≤ b) : dn b (up d x (d x + 1)) x.toNat ++ TLp b (b - 1 - x).toNat x (up d x (d x + 1)) (up d x (d x + 1) x + 1) = (dn b d x.toNat ++ TLp b (b - 1 - x).toNat x d (d x + 1)) ++ (if tellB (up d x (d x + 1)) b then [cd (up d x (d x + 1)) b] else []) := by
  obtain ⟨h1, -, h3⟩ := h
  obtain ⟨⟨a1, a1b, a1c, a1d, a1e⟩, a2, a3⟩ := h3 (by omega)
  have hag : ∀ j, 0 ≤ j → j < x → d j = up d x (d x + 1) j := fun j j0 j1 => (up_n _ _ (by omega)).symm
  rw [up_s, ← dn_congr (d := d) x.toNat (by omega) (fun j j0 j1 => hag j j0 (by omega)), ← TLp_congr (d := d) (by omega) (by omega) hag, TLp_s (by omega), List.append_assoc, show (b - 1 - x).toNat = 0 by omega]
  rfl
theorem TelS_stay {b i x su n n' : Int} {d : Int → Int} (hb : 2 ≤ b ∧ b ≤ 10) (h : TelS b i d x su n) (hx : x = b - 1) (hc : ¬ d x + 1 = b) (hc2 : su + (d x + 1) ≤ b) (hn : (¬ TellR (up d x (d x + 1)) b ∧ n' = n) ∨ (TellR (up d x (d x + 1)) b ∧ n' = n + 1 ∧ n ≠ i)) : TelS b i (up d x (d x + 1)) x su n' ∧ tmu b (up d x (d x + 1)) x < tmu b d x := by
  have hlf := TelS_leaf h hx hb.1
  obtain ⟨h1, -, h3⟩ := h
  obtain ⟨⟨a1, a1b, a1c, a1d, a1e⟩, a2, a3⟩ := h3 (by omega)
  have hag : ∀ j, 0 ≤ j → j < x → d j = up d x (d x + 1) j := fun j j0 j1 => (up_n _ _ (by omega)).symm
  refine ⟨⟨by omega, fun z => by omega, fun _ => ⟨⟨?_, by omega, by omega, by rw [up_s]; omega, by rw [up_s]; omega⟩, fun j j0 j1 => ?_, ?_⟩⟩, ?_⟩
  · rw [← sm_congr (h := d) hag]
    exact a1
  · rw [← hag j j0 j1]
    exact a2 j j0 j1
  · rw [hlf, List.length_append, Int.natCast_add, ← a3]
    rcases hn with ⟨q, e⟩ | ⟨q, e, -⟩
    · rw [if_neg (fun z => q (tellB_iff.mp z)), e]
      simp
    · rw [if_pos (tellB_iff.mpr q), e]
      simp
  · unfold tmu
    rw [if_neg (by omega), if_neg (by omega), up_s, ← ps_congr (d := d) hag]
    have e3 : (d x + 1 + 1) * wt b x = (d x + 1) * wt b x + wt b x := by rw [Int.add_mul, Int.one_mul]
    have := wt_pos (b := b) (y := x)
    omega
theorem TelS_no {b i x su n : Int} {d : Int → Int} (hb : 2 ≤ b ∧ b ≤ 10) (h : TelS b i d x su n) (hx : x = b - 1) (hc : ¬ d x + 1 = b) (hc2 : su + (d x + 1) ≤ b) (hne : su + (d x + 1) ≠ b) : ¬ TellR (up d x (d x + 1)) b := fun hT => by
  obtain ⟨h1, -, h3⟩ := h
  obtain ⟨⟨a1, a1b, a1c, a1d, a1e⟩, a2, a3⟩ := h3 (by omega)
  have hag : ∀ j, 0 ≤ j → j < x → d j = up d x (d x + 1) j := fun j j0 j1 => (up_n _ _ (by omega)).symm
  have hs := (tell_sum (by omega) (fun j j0 j1 => by
    rcases Int.lt_or_le j x with q | q
    · rw [← hag j j0 q]
      exact a2 j j0 q
    · rw [show j = x by omega, up_s]
      omega) hT).1
  rw [show b = x + 1 by omega, sm_s (by omega), up_s, ← sm_congr (h := d) hag] at hs
  omega
theorem TelS_hit {b i x su n : Int} {d : Int → Int} (hb : 2 ≤ b ∧ b ≤ 10) (h : TelS b i d x su n) (hx : x = b - 1) (hc : ¬ d x + 1 = b) (hT : TellR (up d x (d x + 1)) b) (hn : n = i) : pick (LT b) i (-4) = cd (up d x (d x + 1)) b := by
  have hlf := TelS_leaf h hx hb.1
  obtain ⟨h1, -, h3⟩ := h
  obtain ⟨⟨a1, a1b, a1c, a1d, a1e⟩, a2, a3⟩ := h3 (by omega)
  have hag : ∀ j, 0 ≤ j → j < x → d j = up d x (d x + 1) j := fun j j0 j1 => (up_n _ _ (by omega)).symm
  have p1 := pre_dn (d := up d x (d x + 1)) (show 0 ≤ b by omega) x.toNat (by omega) (fun j j0 j1 => by rw [← hag j j0 (by omega)]; exact a2 j j0 (by omega))
  rw [Int.toNat_of_nonneg (by omega), show (b - x).toNat = (b - 1 - x).toNat + 1 by omega] at p1
  have p2 : dn b (up d x (d x + 1)) x.toNat ++ TLp b (b - 1 - x).toNat x (up d x (d x + 1)) (up d x (d x + 1) x + 1) <+: LT b := List.IsPrefix.trans (pre_app (pre_tl (by rw [up_s]; omega) (by rw [up_s]; omega))) p1
  rw [hlf, if_pos (tellB_iff.mpr hT)] at p2
  obtain ⟨t, ht⟩ := p2
  rw [← ht]
  unfold pick
  rw [if_pos (by omega), List.append_assoc, List.getElem?_append_right (by omega)]
  rw [show i.toNat - (dn b d x.toNat ++ TLp b (b - 1 - x).toNat x d (d x + 1)).length = 0 by omega]
  rfl
theorem TelS_end {b i x su n : Int} {d : Int → Int} (h : TelS b i d x su n) (hx : x < 0) : n = ((LT b).length : Int) ∧ (0 ≤ i → pick (LT b) i (-4) = -4) := by
  obtain ⟨h1, h2, -⟩ := h
  have h2 := h2 hx
  refine ⟨h2, fun q => ?_⟩
  unfold pick
  rw [if_pos q, List.getElem?_eq_none (by omega)]
  rfl
set_option maxHeartbeats 4000000 in
set_option maxRecDepth 100000 in
/-- tellers -/
theorem c_X11_tellers (l : Launch) (G : GG) (x : Nat) (ln : Int) (a1 : Nat) (pl : Int) (a3 : Nat) (a4 : Nat) (ri : Int) (ld : Int) (mn : Int) (a8 : Nat) (a9 : Nat) (nn : Int) (a11 : Nat) (fn : Int) (a13 : Nat) (lm : Int) (a15 : Nat) (a16 : Nat) (a17 : Nat) (a18 : Nat) (a19 : Nat) (a20 : Nat) (d : Int → Int) (b : Int) (i : Int) (hd : BD d) (hb : -2147483648 ≤ b ∧ b ≤ 2147483647) (hi : -2147483648 ≤ i ∧ i ≤ 2147483647) : MQc l yX11_tellers wsX11_tellers 1 G [.ref x, .int (iI b), .int (iI i)] [(x, .inr (9, [.int (iI ln), .ref a1, .int (iI pl), .ref a3, .ref a4, .int (iI ri), .int (iI ld), .int (iI mn), .ref a8, .ref a9, .int (iI nn), .ref a11, .int (iI fn), .ref a13, .int (iI lm), .ref a15, .ref a16, .ref a17, .ref a18, .ref a19, .ref a20])), (a19, .inl (G.2.1 0, 11, .inl (iA d)))] (fun r (u : (Int → Int)) => ∃ z : Int, r = some (.long (lI z)) ∧ ((2 ≤ b ∧ b ≤ 10) ∧ -1 ≤ i → (i = -1 → z = ((LT b).length : Int)) ∧ (0 ≤ i → z = pick (LT b) i (-4))) ∧ (¬ ((2 ≤ b ∧ b ≤ 10) ∧ -1 ≤ i) → z = -1) ∧ (BD u)) (fun u => [(x, .inr (9, [.int (iI ln), .ref a1, .int (iI pl), .ref a3, .ref a4, .int (iI ri), .int (iI ld), .int (iI mn), .ref a8, .ref a9, .int (iI nn), .ref a11, .int (iI fn), .ref a13, .int (iI lm), .ref a15, .ref a16, .ref a17, .ref a18, .ref a19, .ref a20])), (a19, .inl (G.2.1 0, 11, .inl (iA u)))]) := by
  refine MQc.start (own := RX11) (by decide) rfl rfl (Nat.le_of_ble_eq_true rfl) ?_
  intro p9 e9 s9 m9 args below meth c9 A Q C hK hW hA hr hlocks hQ ls hl
  have hl : lv_has ls 6 [(0, .ref x), (1, .int (iI b)), (2, .int (iI i))] := hl
  have hin11 : ∀ w ∈ wsX110, w ∈ wsX11_tellers := by decide +kernel
  refine lv_iload_n C.1 C.2.1 dX11_tellers_0 rfl (lv_at hl 1 rfl) ?_
  refine z_i2l C dX11_tellers_1 (by omega) ?_
  refine z_ldc2 (z := 2) C (C.2.2.2.2 (.constantLong RX11 72 (2)) (List.mem_of_getElem? (i := 1) rfl)) (by decide +kernel) dX11_tellers_2 ?_
  refine z_ldc2 (z := 10) C (C.2.2.2.2 (.constantLong RX11 163 (10)) (List.mem_of_getElem? (i := 2) rfl)) (by decide +kernel) dX11_tellers_5 ?_
  refine z_callR (va_runS (As := [.long (lI b), .long (lI 2), .long (lI 10)]) (rest := []) C (c_X11_in l G b 2 10 (by first | omega | assumption | (intros; first | rfl | omega | assumption | (and_intros <;> first | rfl | omega | assumption))) (by first | omega | assumption | (intros; first | rfl | omega | assumption | (and_intros <;> first | rfl | omega | assumption))) (by first | omega | assumption | (intros; first | rfl | omega | assumption | (and_intros <;> first | rfl | omega | assumption))) s9.heap.size) (va_cwS 3 C.2.2.2.2 gX11_tellers_X11_in rfl rfl rfl (by decide +kernel) ⟨Nat.le_of_ble_eq_true rfl, Nat.le_of_ble_eq_true rfl⟩) (z_preS hK hW hA [] rfl (by decide)) rfl rfl hl.1 rfl (lv_room (Nat.le_of_ble_eq_true rfl)) dX11_tellers_8 ⟨Nat.zero_le _, Nat.zero_le _⟩) (fun r hp => ?_)
  have hp : ∃ z : Int, r = some (.int (iI z)) ∧ ((z = 1 ∧ ((2 : Int) ≤ b ∧ b ≤ (10 : Int))) ∨ (z = 0 ∧ ¬ ((2 : Int) ≤ b ∧ b ≤ (10 : Int)))) := hp
  obtain ⟨z_8, rfl, hz_8_0⟩ := hp
  refine z_if_eq (tgt := 19) C dX11_tellers_11 (by decide) (by omega) (fun c_11 => ?_) (fun c_11 => ?_)
  ·
    refine z_ldc2 (z := (-1)) C (C.2.2.2.2 (.constantLong RX11 165 (-1)) (List.mem_of_getElem? (i := 3) rfl)) (by decide +kernel) dX11_tellers_19 ?_
    rw [hQ]
    have hP9 : ∃ z : Int, (some (Value.long (lI (-1)))) = some (.long (lI z)) ∧ ((2 ≤ b ∧ b ≤ 10) ∧ -1 ≤ i → (i = -1 → z = ((LT b).length : Int)) ∧ (0 ≤ i → z = pick (LT b) i (-4))) ∧ (¬ ((2 ≤ b ∧ b ≤ 10) ∧ -1 ≤ i) → z = -1) ∧ (BD d) := ⟨_, rfl, (fun q9 => by omega), (by first | omega | assumption | (intros; first | rfl | omega | assumption | (and_intros <;> first | rfl | omega | assumption))), hd⟩
    exact z_lret C hr hlocks hW d rfl hP9 dX11_tellers_22
  ·
    refine lv_iload_n C.1 C.2.1 dX11_tellers_14 rfl (lv_at hl 2 rfl) ?_
    refine lv_iconst (v := iI (-1)) C.1 C.2.1 dX11_tellers_15 rfl ?_
    refine z_icmp_ge (tgt := 23) C dX11_tellers_16 (by decide) (by omega) (fun c_16 => ?_) (fun c_16 => ?_)
    ·
      have hb2 : 2 ≤ b ∧ b ≤ 10 := by omega
      have hT0 := TelS_0 (i := i) (d := up d 0 (-1)) hb2 (up_s _ _ _)
      refine lv_iconst (v := iI 0) C.1 C.2.1 dX11_tellers_23 rfl ?_
      refine lv_istore_n (lv' := [(3, .int (iI 0)), (0, .ref x), (1, .int (iI b)), (2, .int (iI i))]) C.1 C.2.1 dX11_tellers_24 rfl hl (by decide) rfl (fun ls hl => ?_)
      refine lv_iconst (v := iI 0) C.1 C.2.1 dX11_tellers_25 rfl ?_
      refine lv_istore (lv' := [(4, .int (iI 0)), (3, .int (iI 0)), (0, .ref x), (1, .int (iI b)), (2, .int (iI i))]) C.1 C.2.1 dX11_tellers_26 hl (by decide) rfl (fun ls hl => ?_)
      refine lv_iconst (v := iI 0) C.1 C.2.1 dX11_tellers_28 rfl ?_
      refine lv_istore (lv' := [(5, .int (iI 0)), (4, .int (iI 0)), (3, .int (iI 0)), (0, .ref x), (1, .int (iI b)), (2, .int (iI i))]) C.1 C.2.1 dX11_tellers_29 hl (by decide) rfl (fun ls hl => ?_)
      refine lv_aload_n C.1 C.2.1 dX11_tellers_31 rfl (lv_at hl 3 rfl) ?_
      refine z_get C hK hW hin11 (v := .ref a19) 0 rfl rfl 19 (by decide) (C.2.2.2.2 (.fieldLink RX11 49 "TellingRowsModel" "digit" "[I") (List.mem_of_getElem? (i := 4) rfl)) (fun _ h9 => h9) rfl dX11_tellers_32 ?_
      refine lv_iconst (v := iI 0) C.1 C.2.1 dX11_tellers_35 rfl ?_
      refine lv_iconst (v := iI (-1)) C.1 C.2.1 dX11_tellers_36 rfl ?_
      refine z_iast C hK hW 1 rfl (by omega) (by omega) dX11_tellers_37 (fun H locs hW => ?_)
      have hbd_37 : BD (up d 0 (-1)) := BD.up hd (by omega)
      have hW : Wd G A s9.heap [(x, .inr (9, [.int (iI ln), .ref a1, .int (iI pl), .ref a3, .ref a4, .int (iI ri), .int (iI ld), .int (iI mn), .ref a8, .ref a9, .int (iI nn), .ref a11, .int (iI fn), .ref a13, .int (iI lm), .ref a15, .ref a16, .ref a17, .ref a18, .ref a19, .ref a20])), (a19, .inl (G.2.1 0, 11, .inl (iA (up d 0 (-1)))))] H locs := hW
      have cut_38 : ∀ (n9 : Nat) (n9v : Int) (x9 : Int) (su : Int) (d9 : Int → Int), (BD d9) → (-2147483648 ≤ su ∧ su ≤ 2147483647) → (0 ≤ tmu b d9 x9) → (TelS b i d9 x9 su n9v) → (tmu b d9 x9 < (n9 : Int)) → ∀ (H : Heap) (locs : List Loc) (ls : Array Slot), Wd G A s9.heap [(x, .inr (9, [.int (iI ln), .ref a1, .int (iI pl), .ref a3, .ref a4, .int (iI ri), .int (iI ld), .int (iI mn), .ref a8, .ref a9, .int (iI nn), .ref a11, .int (iI fn), .ref a13, .int (iI lm), .ref a15, .ref a16, .ref a17, .ref a18, .ref a19, .ref a20])), (a19, .inl (G.2.1 0, 11, .inl (iA d9)))] H locs → lv_has ls 6 [(5, .int (iI su)), (4, .int (iI x9)), (3, .int (iI n9v)), (0, .ref x), (1, .int (iI b)), (2, .int (iI i))] → W p9 l e9 (rmL 1) s9 m9 args below meth c9 H locs 0 0 Q (F0 m9 38 ls []) := by
        intro n9
        induction n9 with
        | zero => intro n9v x9 su d9 hd9 hsu hm0 hS hmu; intros; exfalso; omega
        | succ n9 ih_38 =>
          intro n9v x9 su d9 hd9 hsu hm0 hS hmu H locs ls hW hl
          have hS1 := hS.1
          have hS3 := hS.2.2
          have hSn := TelS_n hb2 hS
          refine lv_iload C.1 C.2.1 dX11_tellers_38 (lv_at hl 1 rfl) ?_
          refine z_if_lt (tgt := 179) C dX11_tellers_40 (by decide) (by omega) (fun c_40 => ?_) (fun c_40 => ?_)
          ·
            have hE := TelS_end hS (by omega)
            refine lv_iload_n C.1 C.2.1 dX11_tellers_179 rfl (lv_at hl 5 rfl) ?_
            refine z_if_ge (tgt := 188) C dX11_tellers_180 (by decide) (by omega) (fun c_180 => ?_) (fun c_180 => ?_)
            ·
              refine z_ldc2 (z := (-4)) C (C.2.2.2.2 (.constantLong RX11 174 (-4)) (List.mem_of_getElem? (i := 5) rfl)) (by decide +kernel) dX11_tellers_188 ?_
              rw [hQ]
              have hP9 : ∃ z : Int, (some (Value.long (lI (-4)))) = some (.long (lI z)) ∧ ((2 ≤ b ∧ b ≤ 10) ∧ -1 ≤ i → (i = -1 → z = ((LT b).length : Int)) ∧ (0 ≤ i → z = pick (LT b) i (-4))) ∧ (¬ ((2 ≤ b ∧ b ≤ 10) ∧ -1 ≤ i) → z = -1) ∧ (BD d9) := ⟨_, rfl, (fun _ => ⟨fun q9 => by first | exact hE.1 | omega, fun q9 => by first | exact (hE.2 q9).symm | omega⟩), (fun q9 => by omega), hd9⟩
              exact z_lret C hr hlocks hW d9 rfl hP9 dX11_tellers_191
            ·
              refine lv_iload_n C.1 C.2.1 dX11_tellers_183 rfl (lv_at hl 2 rfl) ?_
              refine z_i2l C dX11_tellers_184 (by omega) ?_
              refine lv_goto (tgt := 191) C.1 C.2.1 dX11_tellers_185 (by decide) ?_
              rw [hQ]
              have hP9 : ∃ z : Int, (some (Value.long (lI n9v))) = some (.long (lI z)) ∧ ((2 ≤ b ∧ b ≤ 10) ∧ -1 ≤ i → (i = -1 → z = ((LT b).length : Int)) ∧ (0 ≤ i → z = pick (LT b) i (-4))) ∧ (¬ ((2 ≤ b ∧ b ≤ 10) ∧ -1 ≤ i) → z = -1) ∧ (BD d9) := ⟨_, rfl, (fun _ => ⟨fun q9 => by first | exact hE.1 | omega, fun q9 => by first | exact (hE.2 q9).symm | omega⟩), (fun q9 => by omega), hd9⟩
              exact z_lret C hr hlocks hW d9 rfl hP9 dX11_tellers_191
          ·
            have hx0 : 0 ≤ x9 := by omega
            obtain ⟨hA1, hA2, hA3⟩ := hS3 hx0
            refine lv_aload_n C.1 C.2.1 dX11_tellers_43 rfl (lv_at hl 3 rfl) ?_
            refine z_get C hK hW hin11 (v := .ref a19) 0 rfl rfl 19 (by decide) (C.2.2.2.2 (.fieldLink RX11 49 "TellingRowsModel" "digit" "[I") (List.mem_of_getElem? (i := 4) rfl)) (fun _ h9 => h9) rfl dX11_tellers_44 ?_
            refine lv_iload C.1 C.2.1 dX11_tellers_47 (lv_at hl 1 rfl) ?_
            refine lv_dup2_11 C.1 C.2.1 dX11_tellers_49 rfl rfl ?_
            refine z_iald C hK hW 1 rfl (by omega) (by omega) dX11_tellers_50 ?_
            have hb_50 := hd9 x9
            refine lv_iconst (v := iI 1) C.1 C.2.1 dX11_tellers_51 rfl ?_
            refine z_iadd C dX11_tellers_52 ?_
            refine z_iast C hK hW 1 rfl (by omega) (by omega) dX11_tellers_53 (fun H locs hW => ?_)
            have hbd_53 : BD (up d9 x9 ((d9 x9) + 1)) := BD.up hd9 (by omega)
            have hW : Wd G A s9.heap [(x, .inr (9, [.int (iI ln), .ref a1, .int (iI pl), .ref a3, .ref a4, .int (iI ri), .int (iI ld), .int (iI mn), .ref a8, .ref a9, .int (iI nn), .ref a11, .int (iI fn), .ref a13, .int (iI lm), .ref a15, .ref a16, .ref a17, .ref a18, .ref a19, .ref a20])), (a19, .inl (G.2.1 0, 11, .inl (iA (up d9 x9 ((d9 x9) + 1)))))] H locs := hW
            have hup9 : up d9 x9 (d9 x9 + 1) x9 = d9 x9 + 1 := up_s _ _ _
            refine lv_aload_n C.1 C.2.1 dX11_tellers_54 rfl (lv_at hl 3 rfl) ?_
            refine z_get C hK hW hin11 (v := .ref a19) 0 rfl rfl 19 (by decide) (C.2.2.2.2 (.fieldLink RX11 49 "TellingRowsModel" "digit" "[I") (List.mem_of_getElem? (i := 4) rfl)) (fun _ h9 => h9) rfl dX11_tellers_55 ?_
            refine lv_iload C.1 C.2.1 dX11_tellers_58 (lv_at hl 1 rfl) ?_
            refine z_iald C hK hW 1 rfl (by omega) (by omega) dX11_tellers_60 ?_
            have hb_60 := hbd_53 x9
            refine lv_iload_n C.1 C.2.1 dX11_tellers_61 rfl (lv_at hl 4 rfl) ?_
            refine z_icmp_eq (tgt := 79) C dX11_tellers_62 (by decide) (by omega) (fun c_62 => ?_) (fun c_62 => ?_)
            ·
              have hPop : ∀ su9, (1 ≤ x9 → su9 = su - d9 (x9 - 1)) → TelS b i (up d9 x9 (d9 x9 + 1)) (x9 + (-1)) su9 n9v ∧ tmu b (up d9 x9 (d9 x9 + 1)) (x9 + (-1)) < tmu b d9 x9 := fun su9 h9 => by have h := TelS_pop (su' := su9) hb2 hS hx0 (by omega) h9; rw [show x9 - 1 = x9 + (-1) by omega] at h; exact h
              have hPm := (hPop (su - d9 (x9 - 1)) (fun _ => rfl)).2
              refine lv_iinc (v := iI (x9 + (-1))) (lv' := [(4, .int (iI (x9 + (-1)))), (5, .int (iI su)), (3, .int (iI n9v)), (0, .ref x), (1, .int (iI b)), (2, .int (iI i))]) C.1 C.2.1 dX11_tellers_79 hl (k := 1) rfl (iI_add _ _) (by decide) rfl (fun ls hl => ?_)
              refine lv_iload C.1 C.2.1 dX11_tellers_82 (lv_at hl 1 rfl) ?_
              refine lv_iload C.1 C.2.1 dX11_tellers_84 (lv_at hl 0 rfl) ?_
              refine z_if_lt (tgt := 99) C dX11_tellers_86 (by decide) (by omega) (fun c_86 => ?_) (fun c_86 => ?_)
              ·
                refine lv_iconst (v := iI 0) C.1 C.2.1 dX11_tellers_99 rfl ?_
                refine z_isub C dX11_tellers_100 ?_
                refine lv_istore (lv' := [(5, .int (iI (su - 0))), (4, .int (iI (x9 + (-1)))), (3, .int (iI n9v)), (0, .ref x), (1, .int (iI b)), (2, .int (iI i))]) C.1 C.2.1 dX11_tellers_101 hl (by decide) rfl (fun ls hl => ?_)
                refine lv_goto (tgt := 38) C.1 C.2.1 dX11_tellers_103 (by decide) ?_
                exact ih_38 n9v (x9 + (-1)) (su - 0) (up d9 x9 ((d9 x9) + 1)) hbd_53 (by first | omega | assumption | (intros; first | rfl | omega | assumption | (and_intros <;> first | rfl | omega | assumption))) (tmu_0 hb2 (hPop _ (fun _ => rfl)).1) (hPop _ (fun q9 => by first | (exfalso; omega) | (rw [hun, show x9 - 1 = x9 + (-1) by omega]))).1 (by omega) _ _ _ hW (lv_sub hl [0, 1, 2, 3, 4, 5] rfl)
              ·
                refine lv_aload_n C.1 C.2.1 dX11_tellers_89 rfl (lv_at hl 3 rfl) ?_
                refine z_get C hK hW hin11 (v := .ref a19) 0 rfl rfl 19 (by decide) (C.2.2.2.2 (.fieldLink RX11 49 "TellingRowsModel" "digit" "[I") (List.mem_of_getElem? (i := 4) rfl)) (fun _ h9 => h9) rfl dX11_tellers_90 ?_
                refine lv_iload C.1 C.2.1 dX11_tellers_93 (lv_at hl 0 rfl) ?_
                refine z_iald C hK hW 1 rfl (by omega) (by omega) dX11_tellers_95 ?_
                have hb_95 := hbd_53 (x9 + (-1))
                have hun : up d9 x9 (d9 x9 + 1) (x9 + (-1)) = d9 (x9 + (-1)) := up_n _ _ (by omega)
                have hdg := hA2 (x9 + (-1)) (by omega) (by omega)
                refine lv_goto (tgt := 100) C.1 C.2.1 dX11_tellers_96 (by decide) ?_
                refine z_isub C dX11_tellers_100 ?_
                refine lv_istore (lv' := [(5, .int (iI (su - ((up d9 x9 ((d9 x9) + 1)) (x9 + (-1)))))), (4, .int (iI (x9 + (-1)))), (3, .int (iI n9v)), (0, .ref x), (1, .int (iI b)), (2, .int (iI i))]) C.1 C.2.1 dX11_tellers_101 hl (by decide) rfl (fun ls hl => ?_)
                refine lv_goto (tgt := 38) C.1 C.2.1 dX11_tellers_103 (by decide) ?_
                exact ih_38 n9v (x9 + (-1)) (su - ((up d9 x9 ((d9 x9) + 1)) (x9 + (-1)))) (up d9 x9 ((d9 x9) + 1)) hbd_53 (by first | omega | assumption | (intros; first | rfl | omega | assumption | (and_intros <;> first | rfl | omega | assumption))) (tmu_0 hb2 (hPop _ (fun _ => rfl)).1) (hPop _ (fun q9 => by first | (exfalso; omega) | (rw [hun, show x9 - 1 = x9 + (-1) by omega]))).1 (by omega) _ _ _ hW (lv_sub hl [0, 1, 2, 3, 4, 5] rfl)
            ·
              refine lv_iload C.1 C.2.1 dX11_tellers_65 (lv_at hl 0 rfl) ?_
              refine lv_aload_n C.1 C.2.1 dX11_tellers_67 rfl (lv_at hl 3 rfl) ?_
              refine z_get C hK hW hin11 (v := .ref a19) 0 rfl rfl 19 (by decide) (C.2.2.2.2 (.fieldLink RX11 49 "TellingRowsModel" "digit" "[I") (List.mem_of_getElem? (i := 4) rfl)) (fun _ h9 => h9) rfl dX11_tellers_68 ?_
              refine lv_iload C.1 C.2.1 dX11_tellers_71 (lv_at hl 1 rfl) ?_
              refine z_iald C hK hW 1 rfl (by omega) (by omega) dX11_tellers_73 ?_
              have hb_73 := hbd_53 x9
              refine z_iadd C dX11_tellers_74 ?_
              refine lv_iload_n C.1 C.2.1 dX11_tellers_75 rfl (lv_at hl 4 rfl) ?_
              refine z_icmp_le (tgt := 106) C dX11_tellers_76 (by decide) (by omega) (fun c_76 => ?_) (fun c_76 => ?_)
              ·
                refine lv_iload C.1 C.2.1 dX11_tellers_106 (lv_at hl 1 rfl) ?_
                refine lv_iload_n C.1 C.2.1 dX11_tellers_108 rfl (lv_at hl 4 rfl) ?_
                refine lv_iconst (v := iI 1) C.1 C.2.1 dX11_tellers_109 rfl ?_
                refine z_isub C dX11_tellers_110 ?_
                refine z_icmp_ge (tgt := 140) C dX11_tellers_111 (by decide) (by omega) (fun c_111 => ?_) (fun c_111 => ?_)
                ·
                  have hx9 : x9 = b - 1 := by omega
                  have c62 : ¬ d9 x9 + 1 = b := by omega
                  have c75 : su + (d9 x9 + 1) ≤ b := by omega
                  refine lv_iload C.1 C.2.1 dX11_tellers_140 (lv_at hl 0 rfl) ?_
                  refine lv_aload_n C.1 C.2.1 dX11_tellers_142 rfl (lv_at hl 3 rfl) ?_
                  refine z_get C hK hW hin11 (v := .ref a19) 0 rfl rfl 19 (by decide) (C.2.2.2.2 (.fieldLink RX11 49 "TellingRowsModel" "digit" "[I") (List.mem_of_getElem? (i := 4) rfl)) (fun _ h9 => h9) rfl dX11_tellers_143 ?_
                  refine lv_iload C.1 C.2.1 dX11_tellers_146 (lv_at hl 1 rfl) ?_
                  refine z_iald C hK hW 1 rfl (by omega) (by omega) dX11_tellers_148 ?_
                  have hb_148 := hbd_53 x9
                  refine z_iadd C dX11_tellers_149 ?_
                  refine lv_iload_n C.1 C.2.1 dX11_tellers_150 rfl (lv_at hl 4 rfl) ?_
                  refine z_icmp_ne (tgt := 38) C dX11_tellers_151 (by decide) (by omega) (fun c_151 => ?_) (fun c_151 => ?_)
                  ·
                    have hSt := TelS_stay (n' := n9v) hb2 hS hx9 c62 c75 (Or.inl ⟨TelS_no hb2 hS hx9 c62 c75 (by omega), rfl⟩)
                    have hPm := hSt.2
                    exact ih_38 n9v x9 su (up d9 x9 ((d9 x9) + 1)) hbd_53 hsu (tmu_0 hb2 hSt.1) hSt.1 (by omega) _ _ _ hW (lv_sub hl [0, 1, 2, 3, 4, 5] rfl)
                  ·
                    refine lv_aload_n C.1 C.2.1 dX11_tellers_154 rfl (lv_at hl 3 rfl) ?_
                    refine lv_iload_n C.1 C.2.1 dX11_tellers_155 rfl (lv_at hl 4 rfl) ?_
                    refine z_callR (va_runV (As := [.int (iI b)]) (rest := []) C (c_X11_isTeller l G x ln a1 pl a3 a4 ri ld mn a8 a9 nn a11 fn a13 lm a15 a16 a17 a18 a19 a20 (up d9 x9 ((d9 x9) + 1)) b (by first | omega | assumption | (intros; first | rfl | omega | assumption | (and_intros <;> first | rfl | omega | assumption))) hbd_53 H.size) (cwV 1 C.2.2.2.2 gX11_tellers_X11_isTeller rfl rfl rfl (by decide +kernel) ⟨Nat.le_of_ble_eq_true rfl, Nat.le_of_ble_eq_true rfl⟩) (z_preV hK hW hA [0, 1] rfl (by decide) (ci := 9) (q0 := 0) rfl rfl) rfl rfl hl.1 rfl (lv_room (Nat.le_of_ble_eq_true rfl)) dX11_tellers_156 ⟨Nat.zero_le _, Nat.zero_le _⟩) (fun r hp => ?_)
                    have hp : ∃ z : Int, r = some (.int (iI z)) ∧ ((z = 1 ∧ TellR (up d9 x9 ((d9 x9) + 1)) b) ∨ (z = 0 ∧ ¬ TellR (up d9 x9 ((d9 x9) + 1)) b)) := hp
                    obtain ⟨z_156, rfl, hz_156_0⟩ := hp
                    refine z_if_eq (tgt := 38) C dX11_tellers_159 (by decide) (by omega) (fun c_159 => ?_) (fun c_159 => ?_)
                    ·
                      have hSt := TelS_stay (n' := n9v) hb2 hS hx9 c62 c75 (Or.inl ⟨hz_156_0.elim (fun q => absurd q.1 (by omega)) (fun q => q.2), rfl⟩)
                      have hPm := hSt.2
                      exact ih_38 n9v x9 su (up d9 x9 ((d9 x9) + 1)) hbd_53 hsu (tmu_0 hb2 hSt.1) hSt.1 (by omega) _ _ _ hW (lv_sub hl [0, 1, 2, 3, 4, 5] rfl)
                    ·
                      refine lv_iload_n C.1 C.2.1 dX11_tellers_162 rfl (lv_at hl 2 rfl) ?_
                      refine lv_iload_n C.1 C.2.1 dX11_tellers_163 rfl (lv_at hl 5 rfl) ?_
                      refine z_icmp_ne (tgt := 173) C dX11_tellers_164 (by decide) (by omega) (fun c_164 => ?_) (fun c_164 => ?_)
                      ·
                        have hT1 := hz_156_0.elim (fun q => q.2) (fun q => absurd q.1 c_159)
                        have hSt := TelS_stay (n' := n9v + 1) hb2 hS hx9 c62 c75 (Or.inr ⟨hT1, rfl, c_164⟩)
                        have hPm := hSt.2
                        refine lv_iinc (v := iI (n9v + 1)) (lv' := [(3, .int (iI (n9v + 1))), (5, .int (iI su)), (4, .int (iI x9)), (0, .ref x), (1, .int (iI b)), (2, .int (iI i))]) C.1 C.2.1 dX11_tellers_173 hl (k := 2) rfl (iI_add _ _) (by decide) rfl (fun ls hl => ?_)
                        refine lv_goto (tgt := 38) C.1 C.2.1 dX11_tellers_176 (by decide) ?_
                        exact ih_38 (n9v + 1) x9 su (up d9 x9 ((d9 x9) + 1)) hbd_53 hsu (tmu_0 hb2 hSt.1) hSt.1 (by omega) _ _ _ hW (lv_sub hl [1, 2, 0, 3, 4, 5] rfl)
                      ·
                        refine lv_aload_n C.1 C.2.1 dX11_tellers_167 rfl (lv_at hl 3 rfl) ?_
                        refine lv_iload_n C.1 C.2.1 dX11_tellers_168 rfl (lv_at hl 4 rfl) ?_
                        refine z_callR (va_runV (As := [.int (iI b)]) (rest := []) C (c_X11_code l G x ln a1 pl a3 a4 ri ld mn a8 a9 nn a11 fn a13 lm a15 a16 a17 a18 a19 a20 (up d9 x9 ((d9 x9) + 1)) b (by first | omega | assumption | (intros; first | rfl | omega | assumption | (and_intros <;> first | rfl | omega | assumption))) hbd_53 H.size) (cwV 1 C.2.2.2.2 gX11_tellers_X11_code rfl rfl rfl (by decide +kernel) ⟨Nat.le_of_ble_eq_true rfl, Nat.le_of_ble_eq_true rfl⟩) (z_preV hK hW hA [0, 1] rfl (by decide) (ci := 9) (q0 := 0) rfl rfl) rfl rfl hl.1 rfl (lv_room (Nat.le_of_ble_eq_true rfl)) dX11_tellers_169 ⟨Nat.zero_le _, Nat.zero_le _⟩) (fun r hp => ?_)
                        have hp : ∃ z : Int, r = some (.long (lI z)) ∧ (z = cd (up d9 x9 ((d9 x9) + 1)) b) := hp
                        obtain ⟨z_169, rfl, hz_169_0⟩ := hp
                        rw [hQ]
                        have hP9 : ∃ z : Int, (some (Value.long (lI z_169))) = some (.long (lI z)) ∧ ((2 ≤ b ∧ b ≤ 10) ∧ -1 ≤ i → (i = -1 → z = ((LT b).length : Int)) ∧ (0 ≤ i → z = pick (LT b) i (-4))) ∧ (¬ ((2 ≤ b ∧ b ≤ 10) ∧ -1 ≤ i) → z = -1) ∧ (BD (up d9 x9 ((d9 x9) + 1))) := ⟨_, rfl, (fun _ => ⟨fun q9 => by omega, fun q9 => by rw [hz_169_0]; exact (TelS_hit hb2 hS hx9 c62 (hz_156_0.elim (fun q => q.2) (fun q => absurd q.1 c_159)) (by omega)).symm⟩), (fun q9 => by omega), hbd_53⟩
                        exact z_lret C hr hlocks hW (up d9 x9 ((d9 x9) + 1)) rfl hP9 dX11_tellers_172
                ·
                  have hPush := TelS_push hb2 hS hx0 (by omega) (by omega) (by omega)
                  have hPm := hPush.2
                  refine lv_iload C.1 C.2.1 dX11_tellers_114 (lv_at hl 0 rfl) ?_
                  refine lv_aload_n C.1 C.2.1 dX11_tellers_116 rfl (lv_at hl 3 rfl) ?_
                  refine z_get C hK hW hin11 (v := .ref a19) 0 rfl rfl 19 (by decide) (C.2.2.2.2 (.fieldLink RX11 49 "TellingRowsModel" "digit" "[I") (List.mem_of_getElem? (i := 4) rfl)) (fun _ h9 => h9) rfl dX11_tellers_117 ?_
                  refine lv_iload C.1 C.2.1 dX11_tellers_120 (lv_at hl 1 rfl) ?_
                  refine z_iald C hK hW 1 rfl (by omega) (by omega) dX11_tellers_122 ?_
                  have hb_122 := hbd_53 x9
                  refine z_iadd C dX11_tellers_123 ?_
                  refine lv_istore (lv' := [(5, .int (iI (su + ((up d9 x9 ((d9 x9) + 1)) x9)))), (4, .int (iI x9)), (3, .int (iI n9v)), (0, .ref x), (1, .int (iI b)), (2, .int (iI i))]) C.1 C.2.1 dX11_tellers_124 hl (by decide) rfl (fun ls hl => ?_)
                  refine lv_iinc (v := iI (x9 + 1)) (lv' := [(4, .int (iI (x9 + 1))), (5, .int (iI (su + ((up d9 x9 ((d9 x9) + 1)) x9)))), (3, .int (iI n9v)), (0, .ref x), (1, .int (iI b)), (2, .int (iI i))]) C.1 C.2.1 dX11_tellers_126 hl (k := 1) rfl (iI_add _ _) (by decide) rfl (fun ls hl => ?_)
                  refine lv_aload_n C.1 C.2.1 dX11_tellers_129 rfl (lv_at hl 3 rfl) ?_
                  refine z_get C hK hW hin11 (v := .ref a19) 0 rfl rfl 19 (by decide) (C.2.2.2.2 (.fieldLink RX11 49 "TellingRowsModel" "digit" "[I") (List.mem_of_getElem? (i := 4) rfl)) (fun _ h9 => h9) rfl dX11_tellers_130 ?_
                  refine lv_iload C.1 C.2.1 dX11_tellers_133 (lv_at hl 0 rfl) ?_
                  refine lv_iconst (v := iI (-1)) C.1 C.2.1 dX11_tellers_135 rfl ?_
                  refine z_iast C hK hW 1 rfl (by omega) (by omega) dX11_tellers_136 (fun H locs hW => ?_)
                  have hbd_136 : BD (up (up d9 x9 ((d9 x9) + 1)) (x9 + 1) (-1)) := BD.up hbd_53 (by omega)
                  have hW : Wd G A s9.heap [(x, .inr (9, [.int (iI ln), .ref a1, .int (iI pl), .ref a3, .ref a4, .int (iI ri), .int (iI ld), .int (iI mn), .ref a8, .ref a9, .int (iI nn), .ref a11, .int (iI fn), .ref a13, .int (iI lm), .ref a15, .ref a16, .ref a17, .ref a18, .ref a19, .ref a20])), (a19, .inl (G.2.1 0, 11, .inl (iA (up (up d9 x9 ((d9 x9) + 1)) (x9 + 1) (-1)))))] H locs := hW
                  refine lv_goto (tgt := 38) C.1 C.2.1 dX11_tellers_137 (by decide) ?_
                  exact ih_38 n9v (x9 + 1) (su + ((up d9 x9 ((d9 x9) + 1)) x9)) (up (up d9 x9 ((d9 x9) + 1)) (x9 + 1) (-1)) hbd_136 (by rw [hup9]; omega) (tmu_0 hb2 hPush.1) (by rw [hup9]; exact hPush.1) (by omega) _ _ _ hW (lv_sub hl [1, 0, 2, 3, 4, 5] rfl)
              ·
                have hPop : ∀ su9, (1 ≤ x9 → su9 = su - d9 (x9 - 1)) → TelS b i (up d9 x9 (d9 x9 + 1)) (x9 + (-1)) su9 n9v ∧ tmu b (up d9 x9 (d9 x9 + 1)) (x9 + (-1)) < tmu b d9 x9 := fun su9 h9 => by have h := TelS_pop (su' := su9) hb2 hS hx0 (by omega) h9; rw [show x9 - 1 = x9 + (-1) by omega] at h; exact h
                have hPm := (hPop (su - d9 (x9 - 1)) (fun _ => rfl)).2
                refine lv_iinc (v := iI (x9 + (-1))) (lv' := [(4, .int (iI (x9 + (-1)))), (5, .int (iI su)), (3, .int (iI n9v)), (0, .ref x), (1, .int (iI b)), (2, .int (iI i))]) C.1 C.2.1 dX11_tellers_79 hl (k := 1) rfl (iI_add _ _) (by decide) rfl (fun ls hl => ?_)
                refine lv_iload C.1 C.2.1 dX11_tellers_82 (lv_at hl 1 rfl) ?_
                refine lv_iload C.1 C.2.1 dX11_tellers_84 (lv_at hl 0 rfl) ?_
                refine z_if_lt (tgt := 99) C dX11_tellers_86 (by decide) (by omega) (fun c_86 => ?_) (fun c_86 => ?_)
                ·
                  refine lv_iconst (v := iI 0) C.1 C.2.1 dX11_tellers_99 rfl ?_
                  refine z_isub C dX11_tellers_100 ?_
                  refine lv_istore (lv' := [(5, .int (iI (su - 0))), (4, .int (iI (x9 + (-1)))), (3, .int (iI n9v)), (0, .ref x), (1, .int (iI b)), (2, .int (iI i))]) C.1 C.2.1 dX11_tellers_101 hl (by decide) rfl (fun ls hl => ?_)
                  refine lv_goto (tgt := 38) C.1 C.2.1 dX11_tellers_103 (by decide) ?_
                  exact ih_38 n9v (x9 + (-1)) (su - 0) (up d9 x9 ((d9 x9) + 1)) hbd_53 (by first | omega | assumption | (intros; first | rfl | omega | assumption | (and_intros <;> first | rfl | omega | assumption))) (tmu_0 hb2 (hPop _ (fun _ => rfl)).1) (hPop _ (fun q9 => by first | (exfalso; omega) | (rw [hun, show x9 - 1 = x9 + (-1) by omega]))).1 (by omega) _ _ _ hW (lv_sub hl [0, 1, 2, 3, 4, 5] rfl)
                ·
                  refine lv_aload_n C.1 C.2.1 dX11_tellers_89 rfl (lv_at hl 3 rfl) ?_
                  refine z_get C hK hW hin11 (v := .ref a19) 0 rfl rfl 19 (by decide) (C.2.2.2.2 (.fieldLink RX11 49 "TellingRowsModel" "digit" "[I") (List.mem_of_getElem? (i := 4) rfl)) (fun _ h9 => h9) rfl dX11_tellers_90 ?_
                  refine lv_iload C.1 C.2.1 dX11_tellers_93 (lv_at hl 0 rfl) ?_
                  refine z_iald C hK hW 1 rfl (by omega) (by omega) dX11_tellers_95 ?_
                  have hb_95 := hbd_53 (x9 + (-1))
                  have hun : up d9 x9 (d9 x9 + 1) (x9 + (-1)) = d9 (x9 + (-1)) := up_n _ _ (by omega)
                  have hdg := hA2 (x9 + (-1)) (by omega) (by omega)
                  refine lv_goto (tgt := 100) C.1 C.2.1 dX11_tellers_96 (by decide) ?_
                  refine z_isub C dX11_tellers_100 ?_
                  refine lv_istore (lv' := [(5, .int (iI (su - ((up d9 x9 ((d9 x9) + 1)) (x9 + (-1)))))), (4, .int (iI (x9 + (-1)))), (3, .int (iI n9v)), (0, .ref x), (1, .int (iI b)), (2, .int (iI i))]) C.1 C.2.1 dX11_tellers_101 hl (by decide) rfl (fun ls hl => ?_)
                  refine lv_goto (tgt := 38) C.1 C.2.1 dX11_tellers_103 (by decide) ?_
                  exact ih_38 n9v (x9 + (-1)) (su - ((up d9 x9 ((d9 x9) + 1)) (x9 + (-1)))) (up d9 x9 ((d9 x9) + 1)) hbd_53 (by first | omega | assumption | (intros; first | rfl | omega | assumption | (and_intros <;> first | rfl | omega | assumption))) (tmu_0 hb2 (hPop _ (fun _ => rfl)).1) (hPop _ (fun q9 => by first | (exfalso; omega) | (rw [hun, show x9 - 1 = x9 + (-1) by omega]))).1 (by omega) _ _ _ hW (lv_sub hl [0, 1, 2, 3, 4, 5] rfl)
      exact cut_38 (((tmu b (up d 0 (-1)) 0) + 1 : Int)).toNat 0 0 0 (up d 0 (-1)) hbd_37 (by first | omega | assumption | (intros; first | rfl | omega | assumption | (and_intros <;> first | rfl | omega | assumption))) (tmu_0 hb2 hT0) hT0 (by omega) _ _ _ hW (lv_sub hl [0, 1, 2, 3, 4, 5] rfl)
    ·
      refine z_ldc2 (z := (-1)) C (C.2.2.2.2 (.constantLong RX11 165 (-1)) (List.mem_of_getElem? (i := 3) rfl)) (by decide +kernel) dX11_tellers_19 ?_
      rw [hQ]
      have hP9 : ∃ z : Int, (some (Value.long (lI (-1)))) = some (.long (lI z)) ∧ ((2 ≤ b ∧ b ≤ 10) ∧ -1 ≤ i → (i = -1 → z = ((LT b).length : Int)) ∧ (0 ≤ i → z = pick (LT b) i (-4))) ∧ (¬ ((2 ≤ b ∧ b ≤ 10) ∧ -1 ≤ i) → z = -1) ∧ (BD d) := ⟨_, rfl, (fun q9 => by omega), (by first | omega | assumption | (intros; first | rfl | omega | assumption | (and_intros <;> first | rfl | omega | assumption))), hd⟩
      exact z_lret C hr hlocks hW d rfl hP9 dX11_tellers_22
