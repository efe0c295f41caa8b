/-! ===== the reader, exactly: a number, a name ===== -/
theorem orV {l s : Int} (h0 : 0 ≤ l) (h3 : l ≤ 3) (s0 : 0 ≤ s) (s4 : s ≤ 4) : or32 l (shl32 s 2) = l + 4 * s := by
  have hl : l = 0 ∨ l = 1 ∨ l = 2 ∨ l = 3 := by omega
  have hs : s = 0 ∨ s = 1 ∨ s = 2 ∨ s = 3 ∨ s = 4 := by omega
  rcases hl with rfl | rfl | rfl | rfl <;> rcases hs with rfl | rfl | rfl | rfl | rfl <;> decide
theorem orN {l : Int} (h0 : 0 ≤ l) (h3 : l ≤ 3) : or32 l 32 = l + 32 := by
  have hl : l = 0 ∨ l = 1 ∨ l = 2 ∨ l = 3 := by omega
  rcases hl with rfl | rfl | rfl | rfl <;> decide
theorem nm_q {b : Int → Int} {p q : Int} (h : 0 < sdOf (b (p + 1)) ∧ q = p + 2 ∨ sdOf (b (p + 1)) = 0 ∧ q = p + 1) : nmQ b p = q := by
  show (if 0 < sdOf (b (p + 1)) then p + 2 else p + 1) = q
  rcases h with ⟨h, rfl⟩ | ⟨h, rfl⟩
  · rw [if_pos h]
  · rw [if_neg (by omega)]
theorem nm_1 {b pl : Int → Int} {p q : Int} (hl : 97 ≤ b p ∧ b p ≤ 100) (hq : nmQ b p = q) (h : b q ≠ 39) : nmOK b pl p ∧ nmE b p = q ∧ nmV b p = b p - 97 + 4 * sdOf (b (p + 1)) := by
  refine ⟨⟨hl, fun e => absurd (hq ▸ e) h⟩, ?_, ?_⟩
  · unfold nmE
    rw [hq, if_neg h]
  · unfold nmV
    rw [hq, if_neg h]
theorem nm_2 {b pl : Int → Int} {p q : Int} (hl : 97 ≤ b p ∧ b p ≤ 100) (hq : nmQ b p = q) (h : b q = 39) (h0 : sdOf (b (p + 1)) = 0) (hp : 0 ≤ pl (b p - 97)) : nmOK b pl p ∧ nmE b p = q + 1 ∧ nmV b p = b p - 97 + 32 := by
  refine ⟨⟨hl, fun _ => ⟨h0, hp⟩⟩, ?_, ?_⟩
  · unfold nmE
    rw [hq, if_pos h]
  · unfold nmV
    rw [hq, if_pos h]
theorem nm_3 {b pl : Int → Int} {p q : Int} (hq : nmQ b p = q) (h : b q = 39) (h0 : sdOf (b (p + 1)) ≠ 0 ∨ pl (b p - 97) < 0) : ¬nmOK b pl p := fun g => by
  have := g.2 (hq ▸ h)
  have e : nmS b p = sdOf (b (p + 1)) := rfl
  omega
theorem nm_4 {b pl : Int → Int} {p : Int} (hl : ¬(97 ≤ b p ∧ b p ≤ 100)) : ¬nmOK b pl p := fun g => hl g.1
theorem ps_at {b : Int → Int} {x a k z : Int} {R : Prop} (h : x = 1 ∧ b k = a ∧ z = k + 1 ∧ R ∨ x = 0 ∧ b k ≠ a ∧ z = k) : ∀ q, q = k → (x = 1 ∧ b q = a ∧ z = q + 1 ∨ x = 0 ∧ b q ≠ a ∧ z = q) := by
  rintro q rfl
  rcases h with ⟨h1, h2, h3, -⟩ | h
  · exact Or.inl ⟨h1, h2, h3⟩
  · exact Or.inr h
theorem sd_at {b b' : Int → Int} {x k : Int} (hb : b' = b) (h : x = sdOf (b' k)) : ∀ q, q = k → x = sdOf (b q) := by
  rintro q rfl
  rw [h, hb]
