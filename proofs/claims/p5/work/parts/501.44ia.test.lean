/-! ===== rows told at one place ===== -/
theorem up_row {Z Zi : ZT} {o k k' : Nat} {a : Int} (e : Zi o = Z o) (hk : k = k') : upZ Zi o k a o = upZ Z o k' a o := by
  subst hk
  funext q
  by_cases hq : q = k
  · rw [hq, up_eq, up_eq]
  · rw [up_nk hq, up_nk hq, e]
theorem up_row2 {Z Zi : ZT} {o k k' : Nat} {a a' : Int} (e : Zi o = Z o) (hk : k = k') (ha : a = a') : upZ Zi o k a o = upZ Z o k' a' o := by
  subst ha
  exact up_row e hk
