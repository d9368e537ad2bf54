/-! texts that are the same but for bytes above 127: the class's and the model's -/
def Eqv (t t' : Int → Int) (T : Int) : Prop := ∀ j, 0 ≤ j → j < T → t j = t' j ∨ ((t j < 0 ∨ 128 ≤ t j) ∧ (t' j < 0 ∨ 128 ≤ t' j))
theorem Eqv.symm {t t' : Int → Int} {T : Int} (h : Eqv t t' T) : Eqv t' t T := fun j j0 j1 => by
  have := h j j0 j1
  omega
theorem NumR_eqv {t t' : Int → Int} {T p q v : Int} (hE : Eqv t t' T) (hp : 0 ≤ p) (h : NumR t T p q v) : NumR t' T p q v := by
  obtain ⟨h1, h2⟩ := h
  rcases h1 with ⟨a1, a2, a3, a4⟩ | ⟨a1, a2, a3, a4, a5⟩
  · have e1 := hE p hp a2
    exact ⟨Or.inl ⟨a1, a2, by omega, by omega⟩, fun hq => by have := hE q (by omega) hq; have := h2 hq; omega⟩
  · have e1 := hE p hp (by omega)
    have e2 := hE (p + 1) (by omega) a2
    exact ⟨Or.inr ⟨a1, a2, by omega, by omega, by omega⟩, fun hq => by have := hE q (by omega) hq; have := h2 hq; omega⟩
theorem Nums_eqv {t t' : Int → Int} {T p : Int} {f : Int → Int} (hE : Eqv t t' T) (hp : 0 ≤ p) : ∀ (k : Nat) (e : Int), Nums t T p k e f → Nums t' T p k e f := by
  intro k
  induction k with
  | zero => intro e h; exact h
  | succ k ih =>
    intro e h
    obtain ⟨e0, q, h1, h2, h3, h4, h5⟩ := h
    have hb := (Nums_b k e0 h1).1
    have hc := NumR_b h2
    have e1 := hE q (by omega) h3
    exact ⟨e0, q, ih e0 h1, NumR_eqv hE (by omega) h2, h3, by omega, h5⟩
theorem ItemR_eqv {t t' : Int → Int} {T p e r s n : Int} {B : Int → Int} (hE : Eqv t t' T) (hp : 0 ≤ p) (h : ItemR t T p e r s n B) : ItemR t' T p e r s n B := by
  obtain ⟨c, f, ⟨g1, g2, k, e0, q, g3, g4, g5, g6, g7, g8⟩, h2⟩ := h
  have hb := (Nums_b k e0 g4).1
  have hc := NumR_b g5
  have e1 := hE p hp g1
  have e2 := hE q (by omega) g6
  exact ⟨c, f, ⟨g1, by omega, k, e0, q, g3, Nums_eqv hE (by omega) k e0 g4, NumR_eqv hE (by omega) g5, g6, by omega, g8⟩, h2⟩
theorem Chain_eqv {t t' : Int → Int} {T : Int} (hT : 0 ≤ T) (hE : Eqv t t' T) : ∀ (k : Nat) (p : Int), Chain t T k p → Chain t' T k p := by
  intro k
  induction k with
  | zero => intro p h; exact h
  | succ k ih =>
    intro p h
    obtain ⟨p0, r, s, n, B, h1, h2, h3⟩ := h
    have := Chain_b hT k p0 h1
    exact ⟨p0, r, s, n, B, ih p0 h1, h2, ItemR_eqv hE (by omega) h3⟩
theorem FaultR_eqv {t t' : Int → Int} {T z : Int} (hT : 0 ≤ T) (hE : Eqv t t' T) (h : FaultR t T z) : FaultR t' T z := by
  obtain ⟨k, p, h1, h2⟩ := h
  have hb := Chain_b hT k p h1
  refine ⟨k, p, Chain_eqv hT hE k p h1, h2.elim (fun q => Or.inl ⟨q.1, q.2.1, fun e r s n B hI => q.2.2 e r s n B (ItemR_eqv hE.symm (by omega) hI)⟩) Or.inr⟩
theorem LayC_eqv {t t' : Int → Int} {T r : Int} {S : Nat} {n : Int} {B : Int → Int} {M : Int} (hT : 0 ≤ T) (hE : Eqv t t' T) : ∀ (k : Nat) (p : Int) (S' : Nat) (n' : Int) (B' : Int → Int) (M' : Int), LayC t T r S n B M k p S' n' B' M' → LayC t' T r S n B M k p S' n' B' M' := by
  intro k
  induction k with
  | zero => intro p S' n' B' M' h; exact h
  | succ k ih =>
    intro p S' n' B' M' h
    obtain ⟨p0, S0, n0, B0, M0, r', s, c, b, h1, h2, h3, h4⟩ := h
    have := Chain_b hT k p0 (LayC_ch k _ _ _ _ _ h1)
    exact ⟨p0, S0, n0, B0, M0, r', s, c, b, ih _ _ _ _ _ h1, h2, ItemR_eqv hE (by omega) h3, h4⟩
theorem LayQ_eqv {t t' : Int → Int} {T r z : Int} {S : Nat} {n : Int} {B : Int → Int} {M : Int} {S' : Nat} {n' : Int} {B' : Int → Int} {M' : Int} (hT : 0 ≤ T) (hE : Eqv t t' T) (h : LayQ t T r z S n B M S' n' B' M') : LayQ t' T r z S n B M S' n' B' M' := by
  rcases h with ⟨p, h1, h2⟩ | ⟨h1, h2, h3⟩
  · exact Or.inl ⟨p, FaultR_eqv hT hE h1, h2⟩
  · exact Or.inr ⟨FaultR_eqv hT hE h1, h2, LayC_eqv hT hE _ _ _ _ _ _ h3⟩
