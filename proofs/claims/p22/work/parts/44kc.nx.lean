/-! ===== what lies beside: cells ===== -/
/-- what is beside a cell is a cell -/
theorem nx_lt {W H e : Int} {c s : Nat} (hW : 1 ≤ W ∧ W ≤ 6) (hH : 1 ≤ H ∧ H ≤ 6) (hc : (c : Int) < W * H) (hs : s ≤ 4) : nx W H e c s < W * H := by
  have hW' : W = 1 ∨ W = 2 ∨ W = 3 ∨ W = 4 ∨ W = 5 ∨ W = 6 := by omega
  have hs' : s = 0 ∨ s = 1 ∨ s = 2 ∨ s = 3 ∨ s = 4 := by omega
  unfold nx
  rcases hW' with rfl | rfl | rfl | rfl | rfl | rfl <;> rcases hs' with rfl | rfl | rfl | rfl | rfl <;> ((first | simp only [nv, foundF] | (unfold nv; dsimp only; unfold foundF) | (unfold nv; dsimp only)); (repeat' split) <;> omega)
def NRC (Z : ZT) : Prop := NR Z 3 (Z 2 0) (Z 2 1) (Z 18 3) (Z 2 2) ∧ Z 2 2 = Z 2 0 * Z 2 1
