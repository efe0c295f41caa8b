/-! ===== a plan, a setting copied ===== -/
/-- a setting copied -/
def SCP (Z Z0 : ZT) (d s : Nat) : Prop := Z d 3 = Z0 s 3 ∧ Z d 4 = Z0 s 4 ∧ CY Z Z0 (d + 11) (s + 11) 144 ∧ CY Z Z0 (d + 12) (s + 12) 4 ∧ CY Z Z0 (d + 13) (s + 13) 12 ∧ CY Z Z0 (d + 14) (s + 14) 12 ∧ CY Z Z0 (d + 15) (s + 15) 12 ∧ CY Z Z0 (d + 16) (s + 16) 12 ∧ TKP Z Z0 (d + 1) (s + 1)
theorem SCP_o {Z Z' Z0 : ZT} {d s : Nat} (e : ∀ o, d ≤ o → o ≤ d + 16 → Z' o = Z o) (h : SCP Z Z0 d s) : SCP Z' Z0 d s := by
  obtain ⟨h0, h1, h2, h3, h4, h5, h6, h7, h8⟩ := h
  exact ⟨(congrFun (e d (by omega) (by omega)) 3).trans h0, (congrFun (e d (by omega) (by omega)) 4).trans h1, CY_o (e _ (by omega) (by omega)) h2, CY_o (e _ (by omega) (by omega)) h3, CY_o (e _ (by omega) (by omega)) h4, CY_o (e _ (by omega) (by omega)) h5, CY_o (e _ (by omega) (by omega)) h6, CY_o (e _ (by omega) (by omega)) h7, TKP_o (fun o h1 h2 => e o (by omega) (by omega)) h8⟩
theorem CY_s {Z Z1 Z0 : ZT} {d s : Nat} {v : Int} (e : Z1 s = Z0 s) (h : CY Z Z1 d s v) : CY Z Z0 d s v := fun k hk => (h k hk).trans (congrFun e k)
theorem TKP_s {Z Z1 Z0 : ZT} {d s : Nat} (e : ∀ o, s ≤ o → o ≤ s + 9 → Z1 o = Z0 o) (h : TKP Z Z1 d s) : TKP Z Z0 d s := by
  obtain ⟨h0, h1, h2, h3, h4, h5, h6, h7, h8, h9, ha⟩ := h
  have e0 := e s (by omega) (by omega)
  have e1 : Z1 s 1 = Z0 s 1 := congrFun e0 1
  rw [e1] at h8 h9 ha
  exact ⟨h0.trans (congrFun e0 0), h1.trans e1, CY_s (e _ (by omega) (by omega)) h2, CY_s (e _ (by omega) (by omega)) h3, CY_s (e _ (by omega) (by omega)) h4, CY_s (e _ (by omega) (by omega)) h5, CY_s (e _ (by omega) (by omega)) h6, CY_s (e _ (by omega) (by omega)) h7, CY_s (e _ (by omega) (by omega)) h8, CY_s (e _ (by omega) (by omega)) h9, CY_s (e _ (by omega) (by omega)) ha⟩
theorem SCP_s {Z Z1 Z0 : ZT} {d s : Nat} (e : ∀ o, s ≤ o → o ≤ s + 16 → Z1 o = Z0 o) (h : SCP Z Z1 d s) : SCP Z Z0 d s := by
  obtain ⟨h0, h1, h2, h3, h4, h5, h6, h7, h8⟩ := h
  have e0 := e s (by omega) (by omega)
  exact ⟨h0.trans (congrFun e0 3), h1.trans (congrFun e0 4), CY_s (e _ (by omega) (by omega)) h2, CY_s (e _ (by omega) (by omega)) h3, CY_s (e _ (by omega) (by omega)) h4, CY_s (e _ (by omega) (by omega)) h5, CY_s (e _ (by omega) (by omega)) h6, CY_s (e _ (by omega) (by omega)) h7, TKP_s (fun o h1 h2 => e o (by omega) (by omega)) h8⟩
/-- a stretch of objects as it was -/
def UNC (Z Z0 : ZT) (lo hi : Nat) : Prop := ∀ o, lo ≤ o → o ≤ hi → Z o = Z0 o
