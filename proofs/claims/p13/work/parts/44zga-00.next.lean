/-! ===== the model's neighbours, exactly ===== -/
theorem fd_m {W H c e x y r : Int} (hW : 1 ≤ W ∧ W ≤ 6) (hH : 1 ≤ H ∧ H ≤ 6) (he : 0 ≤ e ∧ e ≤ 2) (hx : -1 ≤ x ∧ x ≤ W) (hy : -1 ≤ y ∧ y ≤ H) (hr : (0 ≤ x ∧ x ≤ W - 1 ∧ 0 ≤ y ∧ y ≤ H - 1) ∧ r = w32 (w32 (W * y) + x) ∨ ¬(0 ≤ x ∧ x ≤ W - 1 ∧ 0 ≤ y ∧ y ≤ H - 1) ∧ e = 0 ∧ r = w32 (w32 (W * Int.tmod (w32 (y + H)) H) + Int.tmod (w32 (x + W)) W) ∨ ¬(0 ≤ x ∧ x ≤ W - 1 ∧ 0 ≤ y ∧ y ≤ H - 1) ∧ e ≠ 0 ∧ (e = 1 ∧ r = c ∨ e ≠ 1 ∧ r = -1)) : r = foundF W H x y c e := by
  have hW' : W = 1 ∨ W = 2 ∨ W = 3 ∨ W = 4 ∨ W = 5 ∨ W = 6 := by omega
  have hH' : H = 1 ∨ H = 2 ∨ H = 3 ∨ H = 4 ∨ H = 5 ∨ H = 6 := by omega
  unfold foundF
  rcases hr with ⟨h, hr⟩ | ⟨h, h0, hr⟩ | ⟨h, h0, hr⟩
  · rw [if_pos ⟨by omega, by omega, by omega, by omega⟩, hr]
    rcases hW' with rfl | rfl | rfl | rfl | rfl | rfl <;> (simp (disch := omega) only [w32_id])
  · rw [if_neg (by omega), if_neg (by omega), if_neg (by omega), hr]
    rcases hW' with rfl | rfl | rfl | rfl | rfl | rfl <;> rcases hH' with rfl | rfl | rfl | rfl | rfl | rfl <;> (rw [w32_id (show _ ≤ y + _ by omega) (by omega), w32_id (show _ ≤ x + _ by omega) (by omega), tmod_nn (show 0 ≤ y + _ by omega), tmod_nn (show 0 ≤ x + _ by omega)]; (simp (disch := omega) only [w32_id]); (repeat' split) <;> omega)
  · rw [if_neg (by omega)]
    rcases h0 with h0
    split <;> (try split) <;> omega
theorem nx_m {W H c e s x y r : Int} (hW : 1 ≤ W ∧ W ≤ 6) (hH : 1 ≤ H ∧ H ≤ 6) (he : 0 ≤ e ∧ e ≤ 2) (hs : 1 ≤ s ∧ s ≤ 4) (ex : x = c % W + (if s = 2 then 1 else if s = 4 then -1 else 0)) (ey : y = c / W + (if s = 3 then 1 else if s = 1 then -1 else 0)) (hx : -1 ≤ x ∧ x ≤ W) (hy : -1 ≤ y ∧ y ≤ H) (hr : (0 ≤ x ∧ x ≤ W - 1 ∧ 0 ≤ y ∧ y ≤ H - 1) ∧ r = w32 (w32 (W * y) + x) ∨ ¬(0 ≤ x ∧ x ≤ W - 1 ∧ 0 ≤ y ∧ y ≤ H - 1) ∧ e = 0 ∧ r = w32 (w32 (W * Int.tmod (w32 (y + H)) H) + Int.tmod (w32 (x + W)) W) ∨ ¬(0 ≤ x ∧ x ≤ W - 1 ∧ 0 ≤ y ∧ y ≤ H - 1) ∧ e ≠ 0 ∧ (e = 1 ∧ r = c ∨ e ≠ 1 ∧ r = -1)) : r = nx W H e c s.toNat := by
  have q := fd_m hW hH he hx hy hr
  rw [q]
  have hs' : s = 1 ∨ s = 2 ∨ s = 3 ∨ s = 4 := by omega
  unfold nx
  rcases hs' with rfl | rfl | rfl | rfl
  · show _ = foundF W H (c % W) (c / W - 1) c e
    rw [if_neg (by decide), if_neg (by decide)] at ex
    rw [if_neg (by decide), if_pos rfl] at ey
    rw [ex, ey, Int.add_zero]
    rfl
  · show _ = foundF W H (c % W + 1) (c / W) c e
    rw [if_pos rfl] at ex
    rw [if_neg (by decide), if_neg (by decide)] at ey
    rw [ex, ey, Int.add_zero]
  · show _ = foundF W H (c % W) (c / W + 1) c e
    rw [if_neg (by decide), if_neg (by decide)] at ex
    rw [if_pos rfl] at ey
    rw [ex, ey, Int.add_zero]
  · show _ = foundF W H (c % W - 1) (c / W) c e
    rw [if_neg (by decide), if_pos rfl] at ex
    rw [if_neg (by decide), if_neg (by decide)] at ey
    rw [ex, ey, Int.add_zero]
    rfl
