/-! ===== what the model keeps: put ===== -/
theorem up_id2 {Z Z' : ZT} {o k p : Nat} {a : Int} (hu : Z' = upZ Z o k a) (hp : o = p) (ha : a = Z p k) : Z' p = Z p := by
  subst hp
  exact up_id hu ha
theorem KSn_s2 {Z Z1 : ZT} {k n n' p d : Int} (h : KSn Z k n) (h11 : Z 121 (700 * k + (11 + n)).toNat = p) (h23 : Z 121 (700 * k + (23 + n)).toNat = d) (hp : p = Z1 104 n.toNat) (hd : d = Z1 107 n.toNat) (hE : E1 Z1) (h0 : 0 ≤ n) (h3 : n ≤ 3) (hn : n' = n + 1) : KSn Z k n' := by
  refine KSn_s h h11 h23 ?_ hn
  rw [hp, hd]
  exact E1_at hE h0 (by omega)
