/-! a text's items -/
def isd (x : Int) : Prop := 48 ≤ x ∧ x ≤ 57
/-- a number of one or two figures stands from p to q, and is v -/
def NumR (t : Int → Int) (T p q v : Int) : Prop := ((q = p + 1 ∧ p < T ∧ (48 ≤ t p ∧ t p ≤ 57) ∧ v = t p - 48) ∨ (q = p + 2 ∧ p + 1 < T ∧ (48 ≤ t p ∧ t p ≤ 57) ∧ (48 ≤ t (p + 1) ∧ t (p + 1) ≤ 57) ∧ v = 10 * (t p - 48) + (t (p + 1) - 48))) ∧ (q < T → ¬ (48 ≤ t q ∧ t q ≤ 57))
def Nums (t : Int → Int) (T p : Int) : Nat → Int → (Int → Int) → Prop
  | 0, e, _ => e = p
  | k + 1, e, f => ∃ e0 q, Nums t T p k e0 f ∧ NumR t T e0 q (f k) ∧ q < T ∧ t q = 44 ∧ e = q + 1
/-- an r, c numbers parted by commas, a semicolon: from p to e -/
def ItemL (t : Int → Int) (T p c e : Int) (f : Int → Int) : Prop := p < T ∧ t p = 114 ∧ ∃ (k : Nat) (e0 q : Int), c = (k : Int) + 1 ∧ Nums t T (p + 1) k e0 f ∧ NumR t T e0 q (f k) ∧ q < T ∧ t q = 59 ∧ e = q + 1
/-- an item from p to e: register r, sort s, n beginnings B -/
def ItemR (t : Int → Int) (T p e r s n : Int) (B : Int → Int) : Prop := ∃ c f, ItemL t T p c e f ∧ 2 ≤ c ∧ c ≤ 8 ∧ f 0 = r ∧ 0 ≤ r ∧ r ≤ 3 ∧ f 1 = s ∧ 0 ≤ s ∧ s ≤ 6 ∧ n = c - 2 ∧ (∀ j, 0 ≤ j → j < n → B j = f (j + 2)) ∧ AllowsR s.toNat n B
theorem NumR_fun {t : Int → Int} {T p q v q' v' : Int} (h : NumR t T p q v) (h' : NumR t T p q' v') : q = q' ∧ v = v' := by
  obtain ⟨h1, h2⟩ := h
  obtain ⟨h3, h4⟩ := h'
  rcases h1 with ⟨a1, a2, a3, a4⟩ | ⟨a1, a2, a3, a4, a5⟩ <;> rcases h3 with ⟨b1, b2, b3, b4⟩ | ⟨b1, b2, b3, b4, b5⟩
  · omega
  · subst a1
    exact absurd b4 (h2 (by omega))
  · subst b1
    exact absurd a4 (h4 (by omega))
  · omega
theorem NumR_b {t : Int → Int} {T p q v : Int} (h : NumR t T p q v) : p < q ∧ q ≤ p + 2 ∧ q ≤ T ∧ 0 ≤ v ∧ v ≤ 99 := by
  obtain ⟨h1, h2⟩ := h
  rcases h1 with ⟨a1, a2, a3, a4⟩ | ⟨a1, a2, a3, a4, a5⟩ <;> omega
theorem Nums_congr {t : Int → Int} {T p : Int} : ∀ (k : Nat) (e : Int) (f f' : Int → Int), (∀ j, 0 ≤ j → j < (k : Int) → f j = f' j) → Nums t T p k e f → Nums t T p k e f' := by
  intro k
  induction k with
  | zero => intro e f f' _ h; exact h
  | succ k ih =>
    intro e f f' hh h
    obtain ⟨e0, q, h1, h2, h3⟩ := h
    exact ⟨e0, q, ih e0 f f' (fun j j0 j1 => hh j j0 (by omega)) h1, by rw [← hh k (by omega) (by omega)]; exact h2, h3⟩
theorem Nums_fun {t : Int → Int} {T p : Int} : ∀ (k : Nat) (e e' : Int) (f f' : Int → Int), Nums t T p k e f → Nums t T p k e' f' → e = e' ∧ ∀ j, 0 ≤ j → j < (k : Int) → f j = f' j := by
  intro k
  induction k with
  | zero => intro e e' f f' h h'; exact ⟨by rw [show e = p from h, show e' = p from h'], fun j j0 j1 => by omega⟩
  | succ k ih =>
    intro e e' f f' h h'
    obtain ⟨e0, q, h1, h2, h3, h4, h5⟩ := h
    obtain ⟨e1, q', g1, g2, g3, g4, g5⟩ := h'
    obtain ⟨a, b⟩ := ih _ _ _ _ h1 g1
    subst a
    obtain ⟨c, d⟩ := NumR_fun h2 g2
    refine ⟨by omega, fun j j0 j1 => ?_⟩
    rcases Int.lt_or_le j k with r | r
    · exact b j j0 r
    · rw [show j = (k : Int) by omega]
      exact d
theorem Nums_pre {t : Int → Int} {T p : Int} {k : Nat} {f : Int → Int} : ∀ (d : Nat) (e : Int), Nums t T p (k + d) e f → ∃ e0, Nums t T p k e0 f := by
  intro d
  induction d with
  | zero => intro e h; exact ⟨e, h⟩
  | succ d ih =>
    intro e h
    obtain ⟨e0, q, h1, -⟩ := h
    exact ih e0 h1
theorem Nums_b {t : Int → Int} {T p : Int} {f : Int → Int} : ∀ (k : Nat) (e : Int), Nums t T p k e f → p + 2 * k ≤ e ∧ (p ≤ T → e ≤ T) ∧ ∀ j, 0 ≤ j → j < (k : Int) → 0 ≤ f j ∧ f j ≤ 99 := by
  intro k
  induction k with
  | zero => intro e h; have h : e = p := h; subst h; exact ⟨by omega, fun z => z, fun j j0 j1 => by omega⟩
  | succ k ih =>
    intro e h
    obtain ⟨e0, q, h1, h2, h3, h4, h5⟩ := h
    have a := ih e0 h1
    have b := NumR_b h2
    refine ⟨by omega, fun _ => by omega, fun j j0 j1 => ?_⟩
    rcases Int.lt_or_le j k with r | r
    · exact a.2.2 j j0 r
    · rw [show j = (k : Int) by omega]
      omega
theorem ItemL_num {t : Int → Int} {T p c' e' e0 : Int} {f f' : Int → Int} {k : Nat} (h : ItemL t T p c' e' f') (hn : Nums t T (p + 1) k e0 f) : (k : Int) < c' ∧ ∃ q v, NumR t T e0 q v ∧ q < T ∧ (t q = 44 ∨ t q = 59) := by
  obtain ⟨-, -, k', e1, q1, h1, h2, h3, h4, h5, -⟩ := h
  rcases Nat.lt_trichotomy k k' with r | r | r
  · obtain ⟨d, hd⟩ := Nat.exists_eq_add_of_lt r
    have h2' : Nums t T (p + 1) ((k + 1) + d) e1 f' := by rw [show k + 1 + d = k' by omega]; exact h2
    obtain ⟨x, y, q, y1, y2, y3, y4, y5⟩ := Nums_pre d e1 h2'
    obtain ⟨a, -⟩ := Nums_fun _ _ _ _ _ hn y1
    subst a
    exact ⟨by omega, q, _, y2, y3, Or.inl y4⟩
  · subst r
    obtain ⟨a, -⟩ := Nums_fun _ _ _ _ _ hn h2
    subst a
    exact ⟨by omega, q1, _, h3, h4, Or.inr h5⟩
  · exfalso
    obtain ⟨d, hd⟩ := Nat.exists_eq_add_of_lt r
    have hn' : Nums t T (p + 1) ((k' + 1) + d) e0 f := by rw [show k' + 1 + d = k by omega]; exact hn
    obtain ⟨x, y, q, y1, y2, y3, y4, y5⟩ := Nums_pre d e0 hn'
    obtain ⟨a, -⟩ := Nums_fun _ _ _ _ _ y1 h2
    subst a
    obtain ⟨b, -⟩ := NumR_fun y2 h3
    subst b
    omega
theorem ItemL_fun {t : Int → Int} {T p c e c' e' : Int} {f f' : Int → Int} (h : ItemL t T p c e f) (h' : ItemL t T p c' e' f') : c = c' ∧ e = e' ∧ ∀ j, 0 ≤ j → j < c → f j = f' j := by
  have h0 := h
  have h0' := h'
  obtain ⟨-, -, k, e0, q, h1, h2, h3, h4, h5, h6⟩ := h
  obtain ⟨-, -, k', e1, q', g1, g2, g3, g4, g5, g6⟩ := h'
  have a := (ItemL_num h0' h2).1
  have b := (ItemL_num h0 g2).1
  have hk : k = k' := by omega
  subst hk
  obtain ⟨x, y⟩ := Nums_fun _ _ _ _ _ h2 g2
  subst x
  obtain ⟨u, v⟩ := NumR_fun h3 g3
  refine ⟨by omega, by omega, fun j j0 j1 => ?_⟩
  rcases Int.lt_or_le j k with r | r
  · exact y j j0 r
  · rw [show j = (k : Int) by omega]
    exact v
theorem ItemL_b {t : Int → Int} {T p c e : Int} {f : Int → Int} (h : ItemL t T p c e f) : 1 ≤ c ∧ p + 2 < e ∧ e ≤ T ∧ ∀ j, 0 ≤ j → j < c → 0 ≤ f j ∧ f j ≤ 99 := by
  obtain ⟨h0, -, k, e0, q, h1, h2, h3, h4, h5, h6⟩ := h
  have a := Nums_b _ _ h2
  have b := NumR_b h3
  refine ⟨by omega, by omega, by omega, fun j j0 j1 => ?_⟩
  rcases Int.lt_or_le j k with r | r
  · exact a.2.2 j j0 r
  · rw [show j = (k : Int) by omega]
    omega
theorem AllowsR_congr {i : Nat} {n : Int} {B B' : Int → Int} (hh : ∀ j, 0 ≤ j → j < n → B j = B' j) (h : AllowsR i n B) : AllowsR i n B' := by
  obtain ⟨h1, h2, h3, h4⟩ := h
  refine ⟨h1, h2, fun j j0 j1 => by rw [← hh j j0 j1]; exact h3 j j0 j1, fun q => ?_⟩
  subst q
  have : sFew 4 = 2 := rfl
  rw [← hh 0 (by omega) (by omega), ← hh 1 (by omega) (by omega)]
  exact h4 rfl
theorem ItemR_fun {t : Int → Int} {T p e r s n e' r' s' n' : Int} {B B' : Int → Int} (h : ItemR t T p e r s n B) (h' : ItemR t T p e' r' s' n' B') : e = e' ∧ r = r' ∧ s = s' ∧ n = n' ∧ ∀ j, 0 ≤ j → j < n → B j = B' j := by
  obtain ⟨c, f, h1, h2, h3, h4, h5, h6, h7, h8, h9, ha, hb, -⟩ := h
  obtain ⟨c', f', g1, g2, g3, g4, g5, g6, g7, g8, g9, ga, gb, -⟩ := h'
  obtain ⟨x, y, z⟩ := ItemL_fun h1 g1
  refine ⟨y, by rw [← h4, ← g4]; exact z 0 (by omega) (by omega), by rw [← h7, ← g7]; exact z 1 (by omega) (by omega), by omega, fun j j0 j1 => ?_⟩
  rw [hb j j0 j1, gb j j0 (by omega)]
  exact z (j + 2) (by omega) (by omega)
/-- the reading of numbers: c of them read into f, a number of fig figures begun -/
def RdS (t : Int → Int) (T s c : Int) (f : Int → Int) (pl val fig : Int) : Prop := ∃ (k : Nat) (e0 : Int), c = k ∧ Nums t T s k e0 f ∧ pl ≤ T ∧ ((fig = 0 ∧ pl = e0 ∧ val = 0) ∨ (fig = 1 ∧ pl = e0 + 1 ∧ (48 ≤ t e0 ∧ t e0 ≤ 57) ∧ val = t e0 - 48) ∨ (fig = 2 ∧ pl = e0 + 2 ∧ (48 ≤ t e0 ∧ t e0 ≤ 57) ∧ (48 ≤ t (e0 + 1) ∧ t (e0 + 1) ≤ 57) ∧ val = 10 * (t e0 - 48) + (t (e0 + 1) - 48)))
theorem RdS_0 {t f : Int → Int} {T s : Int} (hs : s ≤ T) : RdS t T s 0 f s 0 0 := ⟨0, s, rfl, rfl, hs, Or.inl ⟨rfl, rfl, rfl⟩⟩
theorem RdS_b {t f : Int → Int} {T s c pl val fig : Int} (h : RdS t T s c f pl val fig) : 0 ≤ c ∧ s ≤ pl ∧ pl ≤ T ∧ 0 ≤ val ∧ val ≤ 99 ∧ 0 ≤ fig ∧ fig ≤ 2 := by
  obtain ⟨k, e0, h1, h2, h3, h4⟩ := h
  have := Nums_b _ _ h2
  omega
theorem RdS_d {t f : Int → Int} {T s c pl val fig : Int} (h : RdS t T s c f pl val fig) (hp : pl < T) (hd : 48 ≤ t pl ∧ t pl ≤ 57) (hf : fig < 2) : RdS t T s c f (pl + 1) (10 * val + t pl - 48) (fig + 1) := by
  obtain ⟨k, e0, h1, h2, h3, h4⟩ := h
  refine ⟨k, e0, h1, h2, by omega, ?_⟩
  rcases h4 with ⟨a1, a2, a3⟩ | ⟨a1, a2, a3, a4⟩ | ⟨a1, a2, a3, a4, a5⟩
  · subst a2
    right
    left
    omega
  · subst a2
    right
    right
    refine ⟨by omega, by omega, a3, hd, by omega⟩
  · omega
theorem RdS_n {t f : Int → Int} {T s c pl val fig : Int} (h : RdS t T s c f pl val fig) (hp : pl < T) (hd : ¬ (48 ≤ t pl ∧ t pl ≤ 57)) (hf : 0 < fig) : ∃ (k : Nat) (e0 : Int), c = k ∧ Nums t T s k e0 f ∧ NumR t T e0 pl val := by
  obtain ⟨k, e0, h1, h2, h3, h4⟩ := h
  refine ⟨k, e0, h1, h2, ?_, fun _ => hd⟩
  rcases h4 with ⟨a1, a2, a3⟩ | ⟨a1, a2, a3, a4⟩ | ⟨a1, a2, a3, a4, a5⟩
  · omega
  · exact Or.inl ⟨a2, by omega, a3, a4⟩
  · exact Or.inr ⟨a2, by omega, a3, a4, a5⟩
theorem RdS_c {t f : Int → Int} {T s c pl val fig : Int} (h : RdS t T s c f pl val fig) (hp : pl < T) (hd : t pl = 44) (hf : 0 < fig) : RdS t T s (c + 1) (up f c val) (pl + 1) 0 0 := by
  obtain ⟨k, e0, h1, h2, h3⟩ := RdS_n h hp (by omega) hf
  refine ⟨k + 1, pl + 1, by omega, ⟨e0, pl, Nums_congr k e0 f _ (fun j j0 j1 => (up_n _ _ (by omega)).symm) h2, by rw [h1, up_s]; exact h3, hp, hd, rfl⟩, by omega, Or.inl ⟨rfl, rfl, rfl⟩⟩
theorem RdS_e {t f : Int → Int} {T p c pl val fig : Int} (h : RdS t T (p + 1) c f pl val fig) (hp : pl < T) (hd : t pl = 59) (hf : 0 < fig) (h0 : p < T) (h114 : t p = 114) : ItemL t T p (c + 1) (pl + 1) (up f c val) := by
  obtain ⟨k, e0, h1, h2, h3⟩ := RdS_n h hp (by omega) hf
  exact ⟨h0, h114, k, e0, pl, by omega, Nums_congr k e0 f _ (fun j j0 j1 => (up_n _ _ (by omega)).symm) h2, by rw [h1, up_s]; exact h3, hp, hd, rfl⟩
theorem RdS_bad {t f f' : Int → Int} {T p c pl val fig c' e' : Int} (h : RdS t T (p + 1) c f pl val fig) (hb : T ≤ pl ∨ (¬ ((48 ≤ t pl ∧ t pl ≤ 57) ∧ fig < 2) ∧ ¬ ((t pl = 44 ∨ t pl = 59) ∧ 0 < fig))) (h' : ItemL t T p c' e' f') : False := by
  obtain ⟨k, e0, h1, h2, h3, h4⟩ := h
  obtain ⟨-, q, v, ⟨g1, g2⟩, g3, g4⟩ := ItemL_num h' h2
  have g2 := g2 g3
  rcases h4 with ⟨a1, a2, a3⟩ | ⟨a1, a2, a3, a4⟩ | ⟨a1, a2, a3, a4, a5⟩
  · subst a2
    rcases g1 with ⟨b1, b2, b3, b4⟩ | ⟨b1, b2, b3, b4, b5⟩ <;> omega
  · subst a2
    rcases g1 with ⟨b1, b2, b3, b4⟩ | ⟨b1, b2, b3, b4, b5⟩
    · subst b1
      omega
    · omega
  · subst a2
    rcases g1 with ⟨b1, b2, b3, b4⟩ | ⟨b1, b2, b3, b4, b5⟩
    · subst b1
      omega
    · subst b1
      omega
theorem RdS_full {t f f' : Int → Int} {T p c pl val fig c' e' : Int} (h : RdS t T (p + 1) c f pl val fig) (h' : ItemL t T p c' e' f') : c < c' := by
  obtain ⟨k, e0, h1, h2, -⟩ := h
  have := (ItemL_num h' h2).1
  omega
