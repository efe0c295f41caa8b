/-! ===== the methods that constructors call ===== -/
theorem cix_g2 {Z : ZT} {a b c : Int} (h : CIx 2 Z) (ha : 2 ≤ a ∧ a ≤ 6) (hb : 2 ≤ b ∧ b ≤ 6) (hc : 4 ≤ c ∧ c ≤ 36) : CI (upZ (upZ (upZ Z 2 0 a) 2 1 b) 2 2 c) := by
  refine cix_ci (cix_up (cix_up (cix_up h (fun e => absurd rfl e)) (fun e => absurd rfl e)) (fun e => absurd rfl e)) ?_
  intro k lo hi he
  rcases k with _ | _ | _ | k
  · cases he; simpa [upZ] using ha
  · cases he; simpa [upZ] using hb
  · cases he; simpa [upZ] using hc
  · cases he
theorem cix_g4 {Z : ZT} {a b c : Int} (h : CIx 4 Z) (ha : 1 ≤ a ∧ a ≤ 6) (hb : 1 ≤ b ∧ b ≤ 6) (hc : 1 ≤ c ∧ c ≤ 36) : CI (upZ (upZ (upZ Z 4 0 a) 4 1 b) 4 2 c) := by
  refine cix_ci (cix_up (cix_up (cix_up h (fun e => absurd rfl e)) (fun e => absurd rfl e)) (fun e => absurd rfl e)) ?_
  intro k lo hi he
  rcases k with _ | _ | _ | k
  · cases he; simpa [upZ] using ha
  · cases he; simpa [upZ] using hb
  · cases he; simpa [upZ] using hc
  · cases he
