/-! ===== the model's cells of four ===== -/
theorem cq_at {W H k : Int} (hW : W = 2 ∨ W = 4 ∨ W = 6) (hH : H = 2 ∨ H = 4 ∨ H = 6) (h0 : 0 ≤ k) (h1 : k < W * H / 4) : 0 ≤ w32 (w32 (w32 (2 * W) * w32 (Int.tdiv k (w32 (Int.tdiv W 2)))) + w32 (2 * Int.tmod k (w32 (Int.tdiv W 2)))) ∧ w32 (w32 (w32 (2 * W) * w32 (Int.tdiv k (w32 (Int.tdiv W 2)))) + w32 (2 * Int.tmod k (w32 (Int.tdiv W 2)))) + W ≤ 34 := by
  rcases hW with rfl | rfl | rfl <;> rcases hH with rfl | rfl | rfl <;> (have hk : k = 0 ∨ k = 1 ∨ k = 2 ∨ k = 3 ∨ k = 4 ∨ k = 5 ∨ k = 6 ∨ k = 7 ∨ k = 8 := by omega) <;> rcases hk with rfl | rfl | rfl | rfl | rfl | rfl | rfl | rfl | rfl <;> first | decide | omega
theorem cq_at2 {W H w k : Int} (hw : w = W / 2) (hW : W = 2 ∨ W = 4 ∨ W = 6) (hH : H = 2 ∨ H = 4 ∨ H = 6) (h0 : 0 ≤ k) (h1 : k < W * H / 4) : 0 ≤ w32 (w32 (w32 (2 * W) * w32 (Int.tdiv k w)) + w32 (2 * Int.tmod k w)) ∧ w32 (w32 (w32 (2 * W) * w32 (Int.tdiv k w)) + w32 (2 * Int.tmod k w)) + W ≤ 34 := by
  subst hw
  rcases hW with rfl | rfl | rfl <;> rcases hH with rfl | rfl | rfl <;> (have hk : k = 0 ∨ k = 1 ∨ k = 2 ∨ k = 3 ∨ k = 4 ∨ k = 5 ∨ k = 6 ∨ k = 7 ∨ k = 8 := by omega) <;> rcases hk with rfl | rfl | rfl | rfl | rfl | rfl | rfl | rfl | rfl <;> first | decide | omega
theorem cq_4 {W H x : Int} (hx : x = W * H) (hW : W = 2 ∨ W = 4 ∨ W = 6) (hH : H = 2 ∨ H = 4 ∨ H = 6) : w32 (Int.tdiv x 4) = W * H / 4 ∧ 1 ≤ W * H / 4 ∧ W * H / 4 ≤ 9 := by
  subst hx
  rcases hW with rfl | rfl | rfl <;> rcases hH with rfl | rfl | rfl <;> decide
theorem cq_2 {W H w h : Int} (hw : w = W / 2) (hh : h = H / 2) (hW : W = 2 ∨ W = 4 ∨ W = 6) (hH : H = 2 ∨ H = 4 ∨ H = 6) : w32 (w * h) = W * H / 4 ∧ 1 ≤ W * H / 4 ∧ W * H / 4 ≤ 9 := by
  subst hw hh
  rcases hW with rfl | rfl | rfl <;> rcases hH with rfl | rfl | rfl <;> decide
theorem cq_h {W : Int} (hW : W = 2 ∨ W = 4 ∨ W = 6) : w32 (Int.tdiv W 2) = W / 2 ∧ 1 ≤ W / 2 ∧ W / 2 ≤ 3 := by
  rcases hW with rfl | rfl | rfl <;> decide
theorem cq_e {W : Int} (h2 : 2 ≤ W) (h6 : W ≤ 6) (h : ¬ Int.tmod W 2 = 1) : W = 2 ∨ W = 4 ∨ W = 6 := by
  rw [tmod_nn (by omega)] at h
  omega
theorem cq_q {W q : Int} (hW : W = 2 ∨ W = 4 ∨ W = 6) (h0 : 0 ≤ q) (h3 : q ≤ 3) : 0 ≤ w32 (W * w32 (Int.tdiv q 2)) ∧ w32 (W * w32 (Int.tdiv q 2)) ≤ W ∧ 0 ≤ Int.tmod q 2 ∧ Int.tmod q 2 ≤ 1 := by
  have hq : q = 0 ∨ q = 1 ∨ q = 2 ∨ q = 3 := by omega
  rcases hW with rfl | rfl | rfl <;> rcases hq with rfl | rfl | rfl | rfl <;> decide
