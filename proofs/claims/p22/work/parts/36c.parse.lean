/-! ===== the model's reader: the text, the plan ===== -/
theorem at_le {Z : ZT} (h : CI Z) : Z 100 32 ≤ 161 := (h 100 32 0 161 rfl).2
