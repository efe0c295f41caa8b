/-! ===== exact contracts: width and height, put ===== -/
theorem pm3 {x a b c d : Int} (h : x = a * b) (ha : a = c) (hb : b = d) : x = c * d := by rw [h, ha, hb]
