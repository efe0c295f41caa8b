/-! ===== rows told at one place ===== -/
theorem up_row {Z Zi : ZT} {o k k' : Nat} {a : Int} (e : Zi o = Z o) (hk : k = k') : upZ Zi o k a o = upZ Z o k' a o := by
  subst hk
  funext q
  by_cases hq : q = k
  · rw [hq, up_eq, up_eq]
  · rw [up_nk hq, up_nk hq, e]
theorem up_row2 {Z Zi : ZT} {o k k' : Nat} {a a' : Int} (e : Zi o = Z o) (hk : k = k') (ha : a = a') : upZ Zi o k a o = upZ Z o k' a' o := by
  subst ha
  exact up_row e hk
/-- a row that tells each place's own number -/
def OI (Z : ZT) (o : Nat) (v : Int) : Prop := ∀ k : Nat, (k : Int) < v → Z o k = k
theorem OI_up {Z Z' : ZT} {o : Nat} {v a : Int} (hu : Z' = upZ Z o v.toNat a) (h : OI Z o v) (ha : a = v) (h0 : 0 ≤ v) : OI Z' o (v + 1) := fun k hk => by
  rw [hu]
  by_cases hq : k = v.toNat
  · rw [hq, up_eq, ha]
    omega
  · rw [up_nk hq]
    exact h k (by omega)
theorem OI_o {Z Z' : ZT} {o : Nat} {v : Int} (e : Z' o = Z o) (h : OI Z o v) : OI Z' o v := fun k hk => by rw [e]; exact h k hk
theorem OI_0 {Z : ZT} {o : Nat} {v : Int} (hv : v ≤ 0) : OI Z o v := fun k hk => by omega
theorem OI_m {Z : ZT} {o : Nat} {v v' : Int} (h : OI Z o v) (hv : v' ≤ v) : OI Z o v' := fun k hk => h k (by omega)
