/-! ===== ranges of numbers that every method keeps ===== -/
def bndL : List (Bool × List (Option (Int × Int))) := [(true, []), (false, [none, none, none, none, none, some (0, 2)]), (false, [some (2, 6), some (2, 6), some (4, 36)]), (true, []), (false, [some (1, 6), some (1, 6), some (1, 36)]), (true, []), (false, [none, none, none, some (0, 160), none, some (0, 1100)]), (true, []), (false, [none, some (0, 80)]), (true, [some (0, 3)]), (true, []), (true, [some (0, 80)]), (true, [some ((-80), 80)]), (true, [some (0, 1100)]), (true, [some (0, 1)]), (true, []), (true, []), (true, []), (true, []), (false, [none, some (0, 80)]), (true, [some (0, 3)]), (true, []), (true, [some (0, 80)]), (true, [some ((-80), 80)]), (true, [some (0, 1100)]), (true, [some (0, 1)]), (true, []), (true, []), (true, []), (true, []), (true, []), (true, []), (true, []), (true, []), (true, []), (true, []), (true, []), (false, [none, some (0, 80)]), (true, [some (0, 3)]), (true, []), (true, [some (0, 80)]), (true, [some ((-80), 80)]), (true, [some (0, 1100)]), (true, [some (0, 1)]), (true, []), (true, []), (true, []), (true, []), (true, []), (true, []), (true, []), (true, []), (true, []), (true, []), (false, [none, some (0, 80)]), (true, [some (0, 3)]), (true, []), (true, [some (0, 80)]), (true, [some ((-80), 80)]), (true, [some (0, 1100)]), (true, [some (0, 1)]), (true, []), (true, []), (true, []), (true, []), (true, []), (true, []), (true, []), (true, []), (true, []), (false, [some (1, 36), some (0, 1), none, none, some ((-1), 12)]), (true, []), (false, [some (1, 36), some (0, 1), none, none, some ((-1), 12)]), (true, []), (false, [some (1, 36), some (0, 1), none, none, some ((-1), 12)]), (true, []), (false, [some (1, 36), some (0, 1), none, none, some ((-1), 12)]), (true, []), (false, [none, some ((-1), 12)]), (true, []), (false, [some (0, 12), some (0, 3)]), (true, []), (true, []), (true, []), (true, []), (true, []), (true, []), (true, []), (false, [none, none, none, none, some (0, 12)]), (true, []), (true, []), (true, []), (true, []), (true, []), (true, []), (false, [none, none, none, none, some (0, 12)]), (true, []), (true, []), (true, []), (true, []), (false, [some (2, 6), some (2, 6), some (0, 2), some (0, 9), none, some (0, 160), none, some (0, 4), some (0, 4), none, none, none, none, none, none, none, none, none, none, some (0, 12), none, none, none, none, some (0, 12), some (0, 3), none, none, none, none, some (0, 2), none, some (0, 161), none, some (0, 80), some (0, 6), some (0, 6)]), (true, []), (true, []), (true, [some (0, 3)]), (true, [some ((-4), 3)]), (true, [some (0, 80)]), (true, [some (0, 80)]), (true, []), (true, [some (0, 1)]), (true, []), (true, [some (0, 23)]), (true, [some ((-1), 23)]), (true, []), (true, [some (0, 12)]), (true, [some (0, 35)]), (true, [some (0, 3)]), (true, []), (true, []), (true, []), (true, [some (0, 20)]), (true, [some (0, 5)]), (true, []), (true, []), (true, []), (true, [some (0, 1)]), (true, []), (true, []), (true, []), (true, [some (0, 20000)]), (true, [some (0, 5)]), (true, [some (0, 20000)])]
def bnd (o k : Nat) : Option (Int × Int) := match bndL.getD o (true, []) with
  | (true, []) => none
  | (true, b :: _) => b
  | (false, bs) => bs.getD k none
def CI (Z : ZT) : Prop := ∀ (o k : Nat) (lo hi : Int), bnd o k = some (lo, hi) → lo ≤ Z o k ∧ Z o k ≤ hi
theorem ci_up {Z : ZT} {o k : Nat} {a : Int} (h : CI Z) (ha : ∀ lo hi : Int, bnd o k = some (lo, hi) → lo ≤ a ∧ a ≤ hi) : CI (upZ Z o k a) := by
  intro p q lo hi hb
  unfold upZ
  by_cases hq : p = o ∧ q = k
  · rw [if_pos hq]
    obtain ⟨rfl, rfl⟩ := hq
    exact ha lo hi hb
  · rw [if_neg hq]
    exact h p q lo hi hb
theorem up_ne {Z : ZT} {o k p q : Nat} {a : Int} (h : p ≠ o) : upZ Z o k a p q = Z p q := if_neg (fun (z : p = o ∧ q = k) => h z.1)
theorem up_nk {Z : ZT} {o k q : Nat} {a : Int} (h : q ≠ k) : upZ Z o k a o q = Z o q := if_neg (fun (z : o = o ∧ q = k) => h z.2)
theorem up_eq {Z : ZT} {o k : Nat} {a : Int} : upZ Z o k a o k = a := if_pos ⟨rfl, rfl⟩
/-- weak contracts: before: references, ranges, what is asked of the arguments; behind: ranges, what may have changed, the answer's range -/
def postI (S : List PV → List Nat) (lo hi : Int) (as : List PV) (σ : St) (r : Option PV) (σ' : St) : Prop := ∃ (Z' : ZT) (x : Int), r = some (vi x) ∧ σ' = (σ.1, Z', R0) ∧ CI Z' ∧ keeps (S as) σ.2.1 Z' ∧ lo ≤ x ∧ x ≤ hi
def postU (S : List PV → List Nat) (as : List PV) (σ : St) (r : Option PV) (σ' : St) : Prop := ∃ (Z' : ZT) (x : Int), r = some (vi x) ∧ σ' = (σ.1, Z', R0) ∧ CI Z' ∧ keeps (S as) σ.2.1 Z'
def postL (S : List PV → List Nat) (as : List PV) (σ : St) (r : Option PV) (σ' : St) : Prop := ∃ (Z' : ZT) (x : Int), r = some (vl x) ∧ σ' = (σ.1, Z', R0) ∧ CI Z' ∧ keeps (S as) σ.2.1 Z'
def postV (S : List PV → List Nat) (as : List PV) (σ : St) (r : Option PV) (σ' : St) : Prop := ∃ Z' : ZT, r = none ∧ σ' = (σ.1, Z', R0) ∧ CI Z' ∧ keeps (S as) σ.2.1 Z'
def preW (pre : List PV → ZT → Prop) (as : List PV) (σ : St) : Prop := σ.2.2 = R0 ∧ CI σ.2.1 ∧ pre as σ.2.1
def wspI (n ci : Nat) (pre : List PV → ZT → Prop) (S : List PV → List Nat) (lo hi : Int) : Sp := (n, ci, 0, preW pre, postI S lo hi)
def wspU (n ci : Nat) (pre : List PV → ZT → Prop) (S : List PV → List Nat) : Sp := (n, ci, 0, preW pre, postU S)
def wspL (n ci : Nat) (pre : List PV → ZT → Prop) (S : List PV → List Nat) : Sp := (n, ci, 0, preW pre, postL S)
def wspV (n ci : Nat) (pre : List PV → ZT → Prop) (S : List PV → List Nat) : Sp := (n, ci, 0, preW pre, postV S)
