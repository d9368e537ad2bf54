/-! the law's script by its numbers; what the law holds; rows of its walk -/
def sv (xs : Nat → Int32) (z : Int) : Int := (xs z.toNat).toInt
theorem sv_rg (xs : Nat → Int32) (z : Int) : -2147483648 ≤ sv xs z ∧ sv xs z ≤ 2147483647 := by
  have h1 := (xs z.toNat).le_toInt
  have h2 := (xs z.toNat).toInt_lt
  unfold sv
  omega
theorem sv_iI (xs : Nat → Int32) (z : Int) : iI (sv xs z) = xs z.toNat := Int32.ofInt_toInt _
section LR
variable {p : Program} {l : Launch} {e : Env} {R : Room} {s : State} {m : MethodId} {args : Array Value} {below : List Frame} {meth : Method} {c : Code} {H : Heap} {locs : List Loc} {cells slots : Nat} {Q : State → Prop} {cc : ByteArray} {nL : Nat} {Ts : List Cond} {own : String} {G : GG} {A : Nat → Prop} {ws : va_W} {pc : Nat} {ls : Array Slot} {rest : List Value} {b L : Nat} {xs : Nat → Int32}
theorem z_sld (C : CallFix p m c cc nL s args Ts own) (hX : va_X b L xs s s.heap) (hbl : b < s.heap.size) (hbA : ¬ A b) (hW : Wd G A s.heap ws H locs) (hL : L ≤ 2048) {z : Int} (hz : 0 ≤ z ∧ z < L) (hdg : decode cc pc = .ok (.iaload, 1)) (k : W p l e R s m args below meth c H locs cells slots Q (F0 m (pc + 1) ls (.int (iI (sv xs z)) :: rest))) : W p l e R s m args below meth c H locs cells slots Q (F0 m pc ls (.int (iI z) :: .ref b :: rest)) := by
  refine va_sld C.1 C.2.1 hX hbl hbA hW.2.2 (iI_in hz (by omega)) hdg ?_
  rw [iI_tn hz.1 (by omega), ← sv_iI xs z]
  exact k
theorem z_slen (C : CallFix p m c cc nL s args Ts own) (hX : va_X b L xs s s.heap) (hbl : b < s.heap.size) (hbA : ¬ A b) (hW : Wd G A s.heap ws H locs) (hdg : decode cc pc = .ok (.arraylength, 1)) (k : W p l e R s m args below meth c H locs cells slots Q (F0 m (pc + 1) ls (.int (iI (L : Int)) :: rest))) : W p l e R s m args below meth c H locs cells slots Q (F0 m pc ls (.ref b :: rest)) := by
  refine va_slen C.1 C.2.1 hX hbl hbA hW.2.2 hdg ?_
  rw [iI_ofNat]
  exact k
end LR
theorem iI_and31 (v : Int32) : ∃ k : Int, v &&& iI 31 = iI k ∧ 0 ≤ k ∧ k ≤ 31 := by
  refine ⟨(v &&& iI 31).toInt, (Int32.ofInt_toInt _).symm, ?_⟩
  have h : (v &&& iI 31).toBitVec.toNat ≤ 31 := by
    rw [Int32.toBitVec_and, BitVec.toNat_and]
    exact Nat.le_trans Nat.and_le_right (by decide +kernel)
  have e : (v &&& iI 31).toInt = ((v &&& iI 31).toBitVec.toNat : Int) := by
    show (v &&& iI 31).toBitVec.toInt = _
    exact BitVec.toInt_eq_toNat_of_lt (by omega)
  omega
/-- what the law holds ahead of each call -/
def LI (G : GG) (A : Nat → Prop) (s9 : State) (x y : Nat) (H : Heap) (locs : List Loc) : Prop := ∃ (t : Int → Int) (T : Int) (S : Int → Nat) (n : Int → Int) (B : Int → Int → Int) (nn : Int) (nf : Int → Int) (fn : Int) (ff : Int → Int) (wx wm : va_W), OI t T S n B nn nf fn ff ∧ XI G x t T S n B nn nf fn ff wx ∧ MI G y t T S n B nn nf fn ff wm ∧ Wd G A s9.heap (wx ++ wm) H locs
