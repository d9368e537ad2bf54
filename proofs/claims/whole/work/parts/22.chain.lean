/-! items one behind the other; what a laid text says of a register -/
theorem ItemR_b {t : Int → Int} {T p e r s n : Int} {B : Int → Int} (h : ItemR t T p e r s n B) : 0 ≤ r ∧ r ≤ 3 ∧ 0 ≤ s ∧ s ≤ 6 ∧ p + 2 < e ∧ e ≤ T ∧ 0 ≤ n ∧ n ≤ 6 := by
  obtain ⟨c, f, h1, h2, h3, h4, h5, h6, h7, h8, h9, ha, -⟩ := h
  have := ItemL_b h1
  omega
def Chain (t : Int → Int) (T : Int) : Nat → Int → Prop
  | 0, p => p = 0
  | k + 1, p => ∃ p0 r s n B, Chain t T k p0 ∧ p0 < T ∧ ItemR t T p0 p r s n B
theorem Chain_s {t : Int → Int} {T it p e r s n : Int} {B : Int → Int} (hi : 0 ≤ it) (h : Chain t T it.toNat p) (hp : p < T) (hI : ItemR t T p e r s n B) : Chain t T (it + 1).toNat e := by
  rw [show (it + 1).toNat = it.toNat + 1 by omega]
  exact ⟨p, r, s, n, B, h, hp, hI⟩
theorem Chain_fun {t : Int → Int} {T : Int} : ∀ (k : Nat) (p p' : Int), Chain t T k p → Chain t T k p' → p = p' := by
  intro k
  induction k with
  | zero => intro p p' h h'; rw [show p = 0 from h, show p' = 0 from h']
  | succ k ih =>
    intro p p' h h'
    obtain ⟨q, r, s, n, B, h1, h2, h3⟩ := h
    obtain ⟨q', r', s', n', B', g1, g2, g3⟩ := h'
    have := ih q q' h1 g1
    subst this
    exact (ItemR_fun h3 g3).1
theorem Chain_pre {t : Int → Int} {T : Int} {k : Nat} : ∀ (d : Nat) (p : Int), Chain t T (k + d + 1) p → ∃ p0 e r s n B, Chain t T k p0 ∧ p0 < T ∧ ItemR t T p0 e r s n B := by
  intro d
  induction d with
  | zero => intro p h; obtain ⟨q, r, s, n, B, h1, h2, h3⟩ := h; exact ⟨q, p, r, s, n, B, h1, h2, h3⟩
  | succ d ih => intro p h; obtain ⟨q, r, s, n, B, h1, h2, h3⟩ := h; exact ih q h1
theorem Chain_le {t : Int → Int} {T p p' : Int} {k k' : Nat} (h : Chain t T k p) (hd : p < T → ∀ e r s n B, ¬ ItemR t T p e r s n B) (h' : Chain t T k' p') : k' ≤ k := by
  rcases Nat.lt_or_ge k k' with q | q
  · obtain ⟨d, hd'⟩ := Nat.exists_eq_add_of_lt q
    rw [hd'] at h'
    obtain ⟨p0, e, r, s, n, B, h1, h2, h3⟩ := Chain_pre d p' h'
    have := Chain_fun k p p0 h h1
    subst this
    exact absurd h3 (hd h2 e r s n B)
  · exact q
theorem Chain_one {t : Int → Int} {T p p' : Int} {k k' : Nat} (h : Chain t T k p) (hd : p < T → ∀ e r s n B, ¬ ItemR t T p e r s n B) (h' : Chain t T k' p') (hd' : p' < T → ∀ e r s n B, ¬ ItemR t T p' e r s n B) : k = k' ∧ p = p' := by
  have := Chain_le h hd h'
  have := Chain_le h' hd' h
  have hk : k = k' := by omega
  subst hk
  exact ⟨rfl, Chain_fun k p p' h h'⟩
theorem Chain_b {t : Int → Int} {T : Int} (hT : 0 ≤ T) : ∀ (k : Nat) (p : Int), Chain t T k p → 3 * (k : Int) ≤ p ∧ p ≤ T := by
  intro k
  induction k with
  | zero => intro p h; have h : p = 0 := h; omega
  | succ k ih => intro p h; obtain ⟨q, r, s, n, B, h1, h2, h3⟩ := h; have := ih q h1; have := ItemR_b h3; omega
/-- where a text first fails to be items; -4: nowhere -/
def FaultR (t : Int → Int) (T z : Int) : Prop := ∃ k p, Chain t T k p ∧ ((z = p ∧ p < T ∧ ∀ e r s n B, ¬ ItemR t T p e r s n B) ∨ (z = -4 ∧ T ≤ p))
theorem FaultR_fun {t : Int → Int} {T z z' : Int} (h : FaultR t T z) (h' : FaultR t T z') : z = z' := by
  obtain ⟨k, p, h1, h2⟩ := h
  obtain ⟨k', p', g1, g2⟩ := h'
  have := (Chain_one h1 (fun q => h2.elim (fun x => x.2.2) (fun x => by omega)) g1 (fun q => g2.elim (fun x => x.2.2) (fun x => by omega))).2
  omega
theorem FaultR_no {t : Int → Int} {T p : Int} {k : Nat} (hF : FaultR t T (-4)) (hT : 0 ≤ T) (h : Chain t T k p) (hp : p < T) (hd : ∀ e r s n B, ¬ ItemR t T p e r s n B) : False := by
  obtain ⟨k', p', g1, g2⟩ := hF
  have h0 := Chain_b hT _ _ g1
  have := (Chain_one h (fun _ => hd) g1 (fun q => by omega)).2
  omega
/-- register r behind k items of a text -/
def LayC (t : Int → Int) (T r : Int) (S : Nat) (n : Int) (B : Int → Int) (M : Int) : Nat → Int → Nat → Int → (Int → Int) → Int → Prop
  | 0, p, S', n', B', M' => p = 0 ∧ S' = S ∧ n' = n ∧ B' = B ∧ M' = M
  | k + 1, p, S', n', B', M' => ∃ p0 S0 n0 B0 M0 r' s c b, LayC t T r S n B M k p0 S0 n0 B0 M0 ∧ p0 < T ∧ ItemR t T p0 p r' s c b ∧ ((r' = r ∧ S' = s.toNat ∧ n' = c ∧ M' = 0 ∧ ∀ j, 0 ≤ j → j < c → B' j = b j) ∨ (r' ≠ r ∧ S' = S0 ∧ n' = n0 ∧ B' = B0 ∧ M' = M0))
theorem LayC_0 {t : Int → Int} {T r : Int} {S : Nat} {n : Int} {B : Int → Int} {M : Int} : LayC t T r S n B M (0 : Int).toNat 0 S n B M := ⟨rfl, rfl, rfl, rfl, rfl⟩
theorem LayC_y {t : Int → Int} {T r : Int} {S : Nat} {n : Int} {B : Int → Int} {M it p e r' s c : Int} {S0 : Nat} {n0 M0 : Int} {B0 B' b : Int → Int} (hi : 0 ≤ it) (h : LayC t T r S n B M it.toNat p S0 n0 B0 M0) (hp : p < T) (hI : ItemR t T p e r' s c b) (hr : r' = r) (hB : ∀ j, 0 ≤ j → j < c → B' j = b j) : LayC t T r S n B M (it + 1).toNat e s.toNat c B' 0 := by
  rw [show (it + 1).toNat = it.toNat + 1 by omega]
  exact ⟨p, S0, n0, B0, M0, r', s, c, b, h, hp, hI, Or.inl ⟨hr, rfl, rfl, rfl, hB⟩⟩
theorem LayC_n {t : Int → Int} {T r : Int} {S : Nat} {n : Int} {B : Int → Int} {M it p e r' s c : Int} {S0 : Nat} {n0 M0 : Int} {B0 b : Int → Int} (hi : 0 ≤ it) (h : LayC t T r S n B M it.toNat p S0 n0 B0 M0) (hp : p < T) (hI : ItemR t T p e r' s c b) (hr : r' ≠ r) : LayC t T r S n B M (it + 1).toNat e S0 n0 B0 M0 := by
  rw [show (it + 1).toNat = it.toNat + 1 by omega]
  exact ⟨p, S0, n0, B0, M0, r', s, c, b, h, hp, hI, Or.inr ⟨hr, rfl, rfl, rfl, rfl⟩⟩
theorem LayC_ch {t : Int → Int} {T r : Int} {S : Nat} {n : Int} {B : Int → Int} {M : Int} : ∀ (k : Nat) (p : Int) (S' : Nat) (n' : Int) (B' : Int → Int) (M' : Int), LayC t T r S n B M k p S' n' B' M' → Chain t T k p := by
  intro k
  induction k with
  | zero => intro p S' n' B' M' h; exact h.1
  | succ k ih => intro p S' n' B' M' h; obtain ⟨p0, S0, n0, B0, M0, r', s, c, b, h1, h2, h3, -⟩ := h; exact ⟨p0, r', s, c, b, ih _ _ _ _ _ h1, h2, h3⟩
theorem LayC_fun {t : Int → Int} {T r : Int} {S : Nat} {n : Int} {B C : Int → Int} {M N : Int} (hB : ∀ j, 0 ≤ j → j < n → B j = C j) : ∀ (k : Nat) (p p' : Int) (S' S'' : Nat) (n' n'' : Int) (B' B'' : Int → Int) (M' M'' : Int), LayC t T r S n B M k p S' n' B' M' → LayC t T r S n C N k p' S'' n'' B'' M'' → p = p' ∧ S' = S'' ∧ n' = n'' ∧ (∀ j, 0 ≤ j → j < n' → B' j = B'' j) ∧ ((M' = 0 ∧ M'' = 0) ∨ (M' = M ∧ M'' = N ∧ S' = S ∧ n' = n ∧ B' = B ∧ B'' = C)) := by
  intro k
  induction k with
  | zero =>
    intro p p' S' S'' n' n'' B' B'' M' M'' h h'
    obtain ⟨h1, h2, h3, h4, h5⟩ := h
    obtain ⟨g1, g2, g3, g4, g5⟩ := h'
    subst h1 h2 h3 h4 h5 g1 g2 g3 g4 g5
    exact ⟨rfl, rfl, rfl, hB, Or.inr ⟨rfl, rfl, rfl, rfl, rfl, rfl⟩⟩
  | succ k ih =>
    intro p p' S' S'' n' n'' B' B'' M' M'' h h'
    obtain ⟨q, S0, n0, B0, M0, r', s, c, b, h1, h2, h3, h4⟩ := h
    obtain ⟨q', S1, n1, B1, M1, r1, s1, c1, b1, g1, g2, g3, g4⟩ := h'
    obtain ⟨a1, a2, a3, a4, a5⟩ := ih _ _ _ _ _ _ _ _ _ _ h1 g1
    subst a1
    obtain ⟨e1, e2, e3, e4, e5⟩ := ItemR_fun h3 g3
    subst e1 e2 e3 e4
    rcases h4 with ⟨x1, x2, x3, x4, x5⟩ | ⟨x1, x2, x3, x4, x5⟩ <;> rcases g4 with ⟨y1, y2, y3, y4, y5⟩ | ⟨y1, y2, y3, y4, y5⟩
    · refine ⟨rfl, by rw [x2, y2], by rw [x3, y3], fun j j0 j1 => ?_, Or.inl ⟨x4, y4⟩⟩
      rw [x5 j j0 (by omega), y5 j j0 (by omega), e5 j j0 (by omega)]
    · exact absurd x1 y1
    · exact absurd y1 x1
    · subst x2 x3 x4 x5 y2 y3 y4 y5
      exact ⟨rfl, a2, a3, a4, a5⟩
theorem LayC_ok {t : Int → Int} {T r : Int} {S : Nat} {n : Int} {B : Int → Int} {M : Int} (hS : S < 7) (hA : AllowsR S n B) : ∀ (k : Nat) (p : Int) (S' : Nat) (n' : Int) (B' : Int → Int) (M' : Int), LayC t T r S n B M k p S' n' B' M' → S' < 7 ∧ AllowsR S' n' B' ∧ (M' = 0 ∨ (M' = M ∧ S' = S ∧ n' = n ∧ B' = B)) := by
  intro k
  induction k with
  | zero =>
    intro p S' n' B' M' h
    obtain ⟨h1, h2, h3, h4, h5⟩ := h
    subst h1 h2 h3 h4 h5
    exact ⟨hS, hA, Or.inr ⟨rfl, rfl, rfl, rfl⟩⟩
  | succ k ih =>
    intro p S' n' B' M' h
    obtain ⟨q, S0, n0, B0, M0, r', s, c, b, h1, h2, h3, h4⟩ := h
    rcases h4 with ⟨x1, x2, x3, x4, x5⟩ | ⟨x1, x2, x3, x4, x5⟩
    · subst x2 x3 x4
      obtain ⟨c', f, y1, y2, y3, y4, y5, y6, y7, y8, y9, ya, yb, yc⟩ := h3
      exact ⟨by omega, AllowsR_congr (fun j j0 j1 => (x5 j j0 j1).symm) yc, Or.inl rfl⟩
    · subst x2 x3 x4 x5
      exact ih _ _ _ _ _ h1
/-- register r when a text is laid, which answers z -/
def LayQ (t : Int → Int) (T r z : Int) (S : Nat) (n : Int) (B : Int → Int) (M : Int) (S' : Nat) (n' : Int) (B' : Int → Int) (M' : Int) : Prop := (∃ p, FaultR t T p ∧ p ≠ -4 ∧ z = -2 ∧ S' = S ∧ n' = n ∧ B' = B ∧ M' = M) ∨ (FaultR t T (-4) ∧ 0 ≤ z ∧ LayC t T r S n B M z.toNat T S' n' B' M')
theorem LayQ_T {t : Int → Int} {T r z p : Int} {S : Nat} {n : Int} {B : Int → Int} {M : Int} {S' : Nat} {n' : Int} {B' : Int → Int} {M' : Int} (hF : FaultR t T (-4)) (hz : 0 ≤ z) (h : LayC t T r S n B M z.toNat p S' n' B' M') (hp : p = T) : LayQ t T r z S n B M S' n' B' M' := by
  subst hp
  exact Or.inr ⟨hF, hz, h⟩
/-! a byte of a long; bits -/
def byL (y : Int64) (b : Int) : Int64 := (y.toUInt64 >>> ((iI b).toInt64.toUInt64 &&& Int64.toUInt64 63)).toInt64
theorem iI_self (x : Int32) : iI x.toInt = x := Int32.ofInt_toInt x
def byU (y : Int64) (b : Int) : Int := ((byL y b).toInt32 &&& iI 255).toInt
theorem and255 (x : Int32) : 0 ≤ (x &&& iI 255).toInt ∧ (x &&& iI 255).toInt ≤ 255 := by
  have h : (x &&& iI 255).toInt = ((x.toBitVec &&& 255#32).toInt) := rfl
  have h2 : (x.toBitVec &&& 255#32).toNat ≤ 255 := by
    rw [BitVec.toNat_and]
    exact Nat.and_le_right
  rw [h, BitVec.toInt_eq_toNat_of_lt (by omega)]
  omega
theorem byU_b (y : Int64) (b : Int) : 0 ≤ byU y b ∧ byU y b ≤ 255 := and255 _
section ZR3
variable {p : Program} {l : Launch} {e : Env} {R : Room} {s : State} {m : MethodId} {args : Array Value} {below : List Frame} {meth : Method} {c : Code} {H : Heap} {locs : List Loc} {cells slots : Nat} {Q : State → Prop} {cc : ByteArray} {nL : Nat} {Ts : List Cond} {own : String} {pc : Nat} {ls : Array Slot} {rest : List Value}
theorem z_iandI (C : CallFix p m c cc nL s args Ts own) {x y : Int32} (hdg : decode cc pc = .ok (.iand, 1)) (k : W p l e R s m args below meth c H locs cells slots Q (F0 m (pc + 1) ls (.int (iI (x &&& y).toInt) :: rest))) : W p l e R s m args below meth c H locs cells slots Q (F0 m pc ls (.int y :: .int x :: rest)) := lv_iand C.1 C.2.1 hdg (by rw [iI_self] at k; exact k)
theorem z_ishl (C : CallFix p m c cc nL s args Ts own) {x y z : Int} (hz : iI x <<< (iI y &&& 31) = iI z) (hdg : decode cc pc = .ok (.ishl, 1)) (k : W p l e R s m args below meth c H locs cells slots Q (F0 m (pc + 1) ls (.int (iI z) :: rest))) : W p l e R s m args below meth c H locs cells slots Q (F0 m pc ls (.int (iI y) :: .int (iI x) :: rest)) := lv_ishl C.1 C.2.1 hdg (by rw [hz]; exact k)
theorem z_ior (C : CallFix p m c cc nL s args Ts own) {x y z : Int} (hz : iI x ||| iI y = iI z) (hdg : decode cc pc = .ok (.ior, 1)) (k : W p l e R s m args below meth c H locs cells slots Q (F0 m (pc + 1) ls (.int (iI z) :: rest))) : W p l e R s m args below meth c H locs cells slots Q (F0 m pc ls (.int (iI y) :: .int (iI x) :: rest)) := lv_ior C.1 C.2.1 hdg (by rw [hz]; exact k)
end ZR3
