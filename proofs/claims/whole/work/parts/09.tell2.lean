theorem TLs_one {b : Int} (hb : 0 ≤ b) {p : Int} {d : Int → Int} (h0 : 0 ≤ p) (hp : p + 1 = b) (hd : ∀ j, 0 ≤ j → j < p → 0 ≤ d j ∧ d j < b) : ((TLs b 1 p d).length : Int) ≤ 1 := by
  have key := sm_ind (P := fun x => x ≤ b → (x ≤ b - sm d p → ((TLp b 0 p d x).length : Int) = 0) ∧ ((TLp b 0 p d x).length : Int) ≤ 1) b (fun _ => by rw [TLp_0]; simp) (fun x x0 x1 ih x2 => by
    have a := ih (by omega)
    rw [TLp_s x0, List.length_append, TLs]
    split
    · rename_i h
      have e := (tell_sum hb (fun j j0 j1 => by
        by_cases hj : j = p
        · rw [hj, up_s]
          omega
        · rw [up_n _ _ hj]
          exact hd j j0 (by omega)) (tellB_iff.mp h)).1
      have e1 : sm (up d p x) (p + 1) = sm d p + x := sm_up (fun _ y => y) h0
      rw [hp, e] at e1
      have := a.1 (by omega)
      simp only [List.length_cons, List.length_nil]
      omega
    · simp only [List.length_nil]
      refine ⟨fun h9 => ?_, ?_⟩
      · have := a.1 (by omega)
        omega
      · have := a.2
        omega) hb
  exact (key (Int.le_refl b)).2
theorem TLs_len2 {b : Int} (hb : 0 ≤ b) (hb2 : b ≤ 10) : ∀ (k : Nat) (p : Int) (d : Int → Int), 0 ≤ p → p + (k + 1 : Nat) = b → (∀ j, 0 ≤ j → j < p → 0 ≤ d j ∧ d j < b) → ((TLs b (k + 1) p d).length : Int) ≤ 10 ^ k := by
  intro k
  induction k with
  | zero => intro p d h0 hp hd; exact TLs_one hb h0 (by omega) hd
  | succ k ih =>
    intro p d h0 hp hd
    have key := sm_ind (P := fun x => x ≤ b → ((TLp b (k + 1) p d x).length : Int) ≤ x * 10 ^ k) b (fun _ => by rw [TLp_0]; simp) (fun x x0 x1 ihx x2 => by
      have a := ihx (by omega)
      have c := ih (p + 1) (up d p x) (by omega) (by omega) (fun j j0 j1 => by
        by_cases hj : j = p
        · rw [hj, up_s]
          omega
        · rw [up_n _ _ hj]
          exact hd j j0 (by omega))
      rw [TLp_s x0, List.length_append, Int.add_mul, Int.natCast_add]
      omega) hb
    have h1 := key (Int.le_refl b)
    have h2 : b * 10 ^ k ≤ 10 * 10 ^ k := Int.mul_le_mul_of_nonneg_right hb2 (Int.pow_nonneg (by omega))
    rw [Int.pow_succ, Int.mul_comm]
    exact Int.le_trans h1 h2
theorem TLp_mono {b : Int} {k : Nat} {p x y : Int} {d : Int → Int} (hx : 0 ≤ x) (hxy : x ≤ y) : (TLp b k p d x).length ≤ (TLp b k p d y).length := by
  have key := sm_ind (P := fun i => (TLp b k p d x).length ≤ (TLp b k p d (x + i)).length) (y - x) (by rw [Int.add_zero]; exact Nat.le_refl _) (fun i i0 i1 ih => by
    rw [show x + (i + 1) = (x + i) + 1 by omega, TLp_s (by omega), List.length_append]
    omega) (by omega)
  rwa [show x + (y - x) = y by omega] at key
/-- all tellers of b, rising -/
def LT (b : Int) : List Int := TLs b b.toNat 0 (fun _ => 0)
theorem LT_any {b : Int} (hb : 0 ≤ b) (d : Int → Int) : TLs b b.toNat 0 d = LT b := TLs_congr _ _ _ _ (by omega) (by omega) (fun j j0 j1 => by omega)
theorem LT_len {b : Int} (hb : 2 ≤ b ∧ b ≤ 10) : ((LT b).length : Int) ≤ 1000000000 := by
  have h := TLs_len2 (b := b) (by omega) hb.2 (b.toNat - 1) 0 (fun _ => 0) (by omega) (by omega) (fun j j0 j1 => by omega)
  rw [show b.toNat - 1 + 1 = b.toNat by omega] at h
  have h2 : (10 : Int) ^ (b.toNat - 1) ≤ 10 ^ 9 := by
    have : ∀ n : Nat, n ≤ 9 → (10 : Int) ^ n ≤ 10 ^ 9 := by decide
    exact this _ (by omega)
  exact Int.le_trans h (Int.le_trans h2 (by decide))
