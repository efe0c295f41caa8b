/-! ===== contracts with relations behind; what is kept is told by object or by field (object + 1000 * (place + 1)) ===== -/
def kp (S : List Nat) (Z Z' : ZT) : Prop := ∀ o k : Nat, o < 1000 → o ∉ S → (o + 1000 * (k + 1)) ∉ S → Z' o k = Z o k
def cov (S : List Nat) (e : Nat) : Bool := S.elem e || (Nat.ble 1000 e && S.elem (e % 1000))
theorem kp_refl {S : List Nat} {Z : ZT} : kp S Z Z := fun _ _ _ _ _ => rfl
theorem kp_up {S : List Nat} {Z Z' : ZT} {o k : Nat} {a : Int} (h : kp S Z Z') (ho : o ∈ S ∨ (o + 1000 * (k + 1)) ∈ S) : kp S Z (upZ Z' o k a) := fun p q h1 h2 h3 => by
  have e : upZ Z' o k a p q = Z' p q := if_neg (fun (z : p = o ∧ q = k) => by
    obtain ⟨rfl, rfl⟩ := z
    rcases ho with ho | ho
    · exact h2 ho
    · exact h3 ho)
  rw [e]
  exact h p q h1 h2 h3
theorem kp_trans {S : List Nat} {Z Z' Z'' : ZT} (h : kp S Z Z') (h' : kp S Z' Z'') : kp S Z Z'' := fun o k h1 h2 h3 => (h' o k h1 h2 h3).trans (h o k h1 h2 h3)
theorem kp_mono {S S0 : List Nat} {Z Z' : ZT} (hS : S.all (cov S0) = true) (h : kp S Z Z') : kp S0 Z Z' := fun o k h1 h2 h3 => by
  refine h o k h1 (fun z => ?_) (fun z => ?_)
  · have := List.all_eq_true.mp hS o z
    unfold cov at this
    rcases Bool.or_eq_true _ _ |>.mp this with w | w
    · exact h2 (by simpa using w)
    · have w1 := Nat.le_of_ble_eq_true ((Bool.and_eq_true _ _).mp w).1
      omega
  · have := List.all_eq_true.mp hS _ z
    unfold cov at this
    rcases Bool.or_eq_true _ _ |>.mp this with w | w
    · exact h3 (by simpa using w)
    · have w1 := ((Bool.and_eq_true _ _).mp w).2
      rw [Nat.add_mul_mod_self_left, Nat.mod_eq_of_lt h1] at w1
      exact h2 (by simpa using w1)
theorem kp_of {S : List Nat} {Z Z' : ZT} (h : keeps S Z Z') : kp S Z Z' := fun o k _ h2 _ => by rw [h o h2]
theorem kp_to {S S0 : List Nat} {Z0 Z Z' : ZT} (hk : kp S0 Z0 Z) (hS : S.all (cov S0) = true) (h2 : kp S Z Z') : kp S0 Z0 Z' := kp_trans hk (kp_mono hS h2)
theorem ks_to {S S0 : List Nat} {Z0 Z Z' : ZT} (hk : kp S0 Z0 Z) (hS : S.all (cov S0) = true) (h2 : keeps S Z Z') : kp S0 Z0 Z' := kp_trans hk (kp_mono hS (kp_of h2))
/-- behind: an int (a relation), a long, nothing, an object; nothing changed and an int, a long -/
def pRI (S : List PV → List Nat) (P : List PV → ZT → Int → ZT → Prop) (as : List PV) (σ : St) (r : Option PV) (σ' : St) : Prop := ∃ (Z' : ZT) (x : Int), r = some (vi x) ∧ σ' = (σ.1, Z', R0) ∧ CI Z' ∧ kp (S as) σ.2.1 Z' ∧ P as σ.2.1 x Z'
def pRL (S : List PV → List Nat) (P : List PV → ZT → Int → ZT → Prop) (as : List PV) (σ : St) (r : Option PV) (σ' : St) : Prop := ∃ (Z' : ZT) (x : Int), r = some (vl x) ∧ σ' = (σ.1, Z', R0) ∧ CI Z' ∧ kp (S as) σ.2.1 Z' ∧ P as σ.2.1 x Z'
def pRO (S : List PV → List Nat) (P : List PV → ZT → Nat → ZT → Prop) (as : List PV) (σ : St) (r : Option PV) (σ' : St) : Prop := ∃ (Z' : ZT) (x : Nat), r = some (vr x) ∧ σ' = (σ.1, Z', R0) ∧ CI Z' ∧ kp (S as) σ.2.1 Z' ∧ P as σ.2.1 x Z'
def pRV (S : List PV → List Nat) (P : List PV → ZT → ZT → Prop) (as : List PV) (σ : St) (r : Option PV) (σ' : St) : Prop := ∃ Z' : ZT, r = none ∧ σ' = (σ.1, Z', R0) ∧ CI Z' ∧ kp (S as) σ.2.1 Z' ∧ P as σ.2.1 Z'
def pPI (P : List PV → ZT → Int → Prop) (as : List PV) (σ : St) (r : Option PV) (σ' : St) : Prop := σ' = σ ∧ ∃ x : Int, r = some (vi x) ∧ P as σ.2.1 x
def pPL (P : List PV → ZT → Int → Prop) (as : List PV) (σ : St) (r : Option PV) (σ' : St) : Prop := σ' = σ ∧ ∃ x : Int, r = some (vl x) ∧ P as σ.2.1 x
def rRI (n ci : Nat) (pre : List PV → ZT → Prop) (S : List PV → List Nat) (P : List PV → ZT → Int → ZT → Prop) : Sp := (n, ci, 0, preW pre, pRI S P)
def rRL (n ci : Nat) (pre : List PV → ZT → Prop) (S : List PV → List Nat) (P : List PV → ZT → Int → ZT → Prop) : Sp := (n, ci, 0, preW pre, pRL S P)
def rRO (n ci : Nat) (pre : List PV → ZT → Prop) (S : List PV → List Nat) (P : List PV → ZT → Nat → ZT → Prop) : Sp := (n, ci, 0, preW pre, pRO S P)
def rRV (n ci : Nat) (pre : List PV → ZT → Prop) (S : List PV → List Nat) (P : List PV → ZT → ZT → Prop) : Sp := (n, ci, 0, preW pre, pRV S P)
def rPI (n ci : Nat) (pre : List PV → ZT → Prop) (P : List PV → ZT → Int → Prop) : Sp := (n, ci, 0, preW pre, pPI P)
def rPL (n ci : Nat) (pre : List PV → ZT → Prop) (P : List PV → ZT → Int → Prop) : Sp := (n, ci, 0, preW pre, pPL P)
theorem st_k {Z0 Z : ZT} {o k : Nat} {a : Int} {K : ZT → Prop} {S : List Nat} (hI : CI Z) (hk : kp S Z0 Z) (ho : o ∈ S ∨ (o + 1000 * (k + 1)) ∈ S) (ha : ∀ lo hi : Int, bnd o k = some (lo, hi) → lo ≤ a ∧ a ≤ hi) (h : ∀ Z1, CI Z1 → kp S Z0 Z1 → Z1 o k = a → Z1 = upZ Z o k a → K Z1) : ∀ Z1, Z1 = upZ Z o k a → K Z1 := fun Z1 e => h Z1 (by rw [e]; exact ci_up hI ha) (by rw [e]; exact kp_up hk ho) (by rw [e]; exact up_eq) e
theorem st_same {Z : ZT} {K : ZT → Prop} (h : K Z) : ∀ Z1, Z1 = Z → K Z1 := fun _ e => e ▸ h
/-- objects that a list doesn't touch -/
def avo (S : List Nat) (o : Nat) : Bool := S.all (fun e => !(Nat.beq e o) && !(Nat.beq (e % 1000) o))
theorem kp_av {S : List Nat} {Z Z' : ZT} {o : Nat} (h : kp S Z Z') (hS : avo S o = true) (ho : o < 1000) : Z' o = Z o := funext fun k => by
  refine h o k ho (fun z => ?_) (fun z => ?_)
  · have w := ((Bool.and_eq_true _ _).mp (List.all_eq_true.mp hS _ z)).1
    rw [Nat.beq_refl] at w
    cases w
  · have w := ((Bool.and_eq_true _ _).mp (List.all_eq_true.mp hS _ z)).2
    rw [Nat.add_mul_mod_self_left, Nat.mod_eq_of_lt ho, Nat.beq_refl] at w
    cases w
theorem tdiv_nn {a b : Int} (h : 0 ≤ a) : Int.tdiv a b = a / b := Int.tdiv_eq_ediv_of_nonneg h
theorem tmod_nn {a b : Int} (h : 0 ≤ a) : Int.tmod a b = a % b := Int.tmod_eq_emod_of_nonneg h
theorem or32_lt {a b : Int} (h0 : 0 ≤ a) (h1 : a < 1024) (h2 : 0 ≤ b) (h3 : b < 1024) : 0 ≤ or32 a b ∧ or32 a b < 1024 := by
  rw [or32_nat h0 (by omega) h2 (by omega)]
  have := Nat.or_lt_two_pow (x := a.toNat) (y := b.toNat) (n := 10) (by omega) (by omega)
  omega
theorem shl2_le {a : Int} (h0 : 0 ≤ a) (h1 : a ≤ 4) : 0 ≤ shl32 a 2 ∧ shl32 a 2 ≤ 16 := by
  have : a = 0 ∨ a = 1 ∨ a = 2 ∨ a = 3 ∨ a = 4 := by omega
  rcases this with rfl | rfl | rfl | rfl | rfl <;> decide
/-- the byte ahead of the class's reader -/
def AH (Z : ZT) : Int := if 0 ≤ Z 6 3 ∧ Z 6 3 < Z 6 1 ∧ Z 6 3 < 160 then Z 7 (Z 6 3).toNat else -1
theorem AH_pos {Z : ZT} {x y z : Int} (hx : x = Z 6 3) (hy : y = Z 6 1) (h : 0 ≤ x ∧ x < y ∧ x < 160) (hz : z = Z 7 x.toNat) : z = AH Z := by
  subst hx hy hz
  exact (if_pos h).symm
theorem AH_neg {Z : ZT} {x y : Int} (hx : x = Z 6 3) (hy : y = Z 6 1) (h : ¬ (0 ≤ x ∧ x < y ∧ x < 160)) : -1 = AH Z := by
  subst hx hy
  exact (if_neg h).symm
theorem AH_b (Z : ZT) : AH Z = -1 ∨ 0 ≤ Z 6 3 ∧ Z 6 3 < 160 ∧ Z 6 3 < Z 6 1 := by
  unfold AH
  by_cases h : 0 ≤ Z 6 3 ∧ Z 6 3 < Z 6 1 ∧ Z 6 3 < 160
  · exact Or.inr (by omega)
  · exact Or.inl (if_neg h)
theorem up_o {Z Z1 : ZT} {o k p : Nat} {a : Int} (h : Z1 = upZ Z o k a) (hp : p ≠ o) : Z1 p = Z p := by
  rw [h]
  exact funext fun q => up_ne hp
theorem kpF {S : List Nat} {Z Z' : ZT} (o k : Nat) (h : kp S Z Z') (hS : (!(S.elem o) && (!(S.elem (o + 1000 * (k + 1))) && Nat.ble o 999)) = true) : Z' o k = Z o k := by
  rw [Bool.and_eq_true, Bool.and_eq_true] at hS
  obtain ⟨h1, h2, h3⟩ := hS
  exact h o k (Nat.lt_succ_of_le (Nat.le_of_ble_eq_true h3)) (by simpa using h1) (by simpa using h2)
theorem ksF {S : List Nat} {Z Z' : ZT} (o k : Nat) (h : keeps S Z Z') (hS : (!(S.elem o)) = true) : Z' o k = Z o k := congrFun (h o (by simpa using hS)) k
