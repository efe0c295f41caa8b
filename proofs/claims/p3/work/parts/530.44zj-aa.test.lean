/-! ===== times begun anew ===== -/
theorem TM_1 {Z : ZT} (hI : CI Z) (h : ∀ c : Nat, c < 36 → Z 90 c = 0) (hd : Z 88 4 = 0) (hf : FL Z 91 0 6) : TM Z := TM_0 h hd hf (hI 2 2 4 36 rfl).2
theorem NRC_m {Z : ZT} {W H e n : Int} (h : NR Z 3 W H e n) (h0 : Z 2 0 = W) (h1 : Z 2 1 = H) (h18 : Z 18 3 = e) (h22 : Z 2 2 = n) (hn : n = W * H) : NRC Z := by
  unfold NRC
  rw [h0, h1, h18, h22]
  exact ⟨h, hn⟩
