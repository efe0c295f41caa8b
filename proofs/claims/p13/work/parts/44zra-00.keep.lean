/-! ===== numbers reckoned: what the boards hold stays right ===== -/
theorem nx_ge {W H e : Int} {c s : Nat} (hW : 1 ≤ W ∧ W ≤ 6) (hH : 1 ≤ H ∧ H ≤ 6) (hc : (c : Int) < W * H) (hs : s ≤ 4) : -1 ≤ nx W H e c s := by
  have hW' : W = 1 ∨ W = 2 ∨ W = 3 ∨ W = 4 ∨ W = 5 ∨ W = 6 := by omega
  have hs' : s = 0 ∨ s = 1 ∨ s = 2 ∨ s = 3 ∨ s = 4 := by omega
  unfold nx
  rcases hW' with rfl | rfl | rfl | rfl | rfl | rfl <;> rcases hs' with rfl | rfl | rfl | rfl | rfl <;> ((first | simp only [nv, foundF] | (unfold nv; dsimp only; unfold foundF) | (unfold nv; dsimp only)); (repeat' split) <;> omega)
theorem half_r {w x : Int} (hw : 2 ≤ w ∧ w ≤ 6) (hx : x = w / 2) : 1 ≤ x ∧ x ≤ 3 := by omega
theorem NR_w {Z : ZT} {o : Nat} {W H e : Int} (h : NR Z (o + 1) W H e (W * H)) (h2 : Z o 2 = W * H) (hW : 1 ≤ W ∧ W ≤ 6) (hH : 1 ≤ H ∧ H ≤ 6) : NRW Z o := by
  intro c hc
  refine ⟨?_, fun s hs => ?_⟩
  · have q := h c (by omega) 0 (by decide)
    rw [Nat.add_zero] at q
    exact q
  · have q := h c (by omega) s hs
    have lt := nx_lt (W := W) (H := H) (e := e) (c := c) (s := s) hW hH (by omega) hs
    have ge := nx_ge (W := W) (H := H) (e := e) (c := c) (s := s) hW hH (by omega) hs
    rw [q, h2]
    exact ⟨ge, lt⟩
theorem mul3 {a b : Int} (ha : 1 ≤ a ∧ a ≤ 3) (hb : 1 ≤ b ∧ b ≤ 3) : 1 ≤ a * b ∧ a * b ≤ 9 := by
  have : a = 1 ∨ a = 2 ∨ a = 3 := by omega
  rcases this with rfl | rfl | rfl <;> omega
theorem BM_76 {Z : ZT} (h : Z 76 4 = 0) : BM Z 76 4 := by
  intro _
  rw [h]
  refine SOL_f (fun k l _ _ => ?_)
  unfold FZ0
  rw [if_pos rfl]
theorem NR_9 {Z : ZT} {o : Nat} {W H e n : Int} (h : NR Z o W H e n) (hn : n = W * H) (hW : 1 ≤ W ∧ W ≤ 3) (hH : 1 ≤ H ∧ H ≤ 3) : 1 ≤ W * H ∧ W * H ≤ 9 := mul3 hW hH
