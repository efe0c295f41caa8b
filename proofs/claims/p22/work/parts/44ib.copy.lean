/-! ===== a plan copied ===== -/
/-- a plan copied, as far as its terms are used -/
def TKP (Z Z0 : ZT) (d s : Nat) : Prop := Z d 0 = Z0 s 0 ∧ Z d 1 = Z0 s 1 ∧ CY Z Z0 (d + 1) (s + 1) 4 ∧ CY Z Z0 (d + 2) (s + 2) 4 ∧ CY Z Z0 (d + 3) (s + 3) 4 ∧ CY Z Z0 (d + 4) (s + 4) 4 ∧ CY Z Z0 (d + 5) (s + 5) 4 ∧ CY Z Z0 (d + 6) (s + 6) 4 ∧ CY Z Z0 (d + 7) (s + 7) (Z0 s 1) ∧ CY Z Z0 (d + 8) (s + 8) (Z0 s 1) ∧ CY Z Z0 (d + 9) (s + 9) (Z0 s 1)
theorem TKP_o {Z Z' Z0 : ZT} {d s : Nat} (e : ∀ o, d ≤ o → o ≤ d + 9 → Z' o = Z o) (h : TKP Z Z0 d s) : TKP Z' Z0 d s := by
  obtain ⟨h0, h1, h2, h3, h4, h5, h6, h7, h8, h9, ha⟩ := h
  exact ⟨(congrFun (e d (by omega) (by omega)) 0).trans h0, (congrFun (e d (by omega) (by omega)) 1).trans h1, CY_o (e _ (by omega) (by omega)) h2, CY_o (e _ (by omega) (by omega)) h3, CY_o (e _ (by omega) (by omega)) h4, CY_o (e _ (by omega) (by omega)) h5, CY_o (e _ (by omega) (by omega)) h6, CY_o (e _ (by omega) (by omega)) h7, CY_o (e _ (by omega) (by omega)) h8, CY_o (e _ (by omega) (by omega)) h9, CY_o (e _ (by omega) (by omega)) ha⟩
