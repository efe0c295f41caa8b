/-! ===== what the model keeps, number by number ===== -/
/-- where the i-th kept number stands in the model; which one stands at a place -/
def KF (Z : ZT) (i : Int) : Int := if i < 1 then Z 100 7 else if i < 2 then Z 100 2 else if i < 3 then Z 100 19 else if i < 7 then Z 101 (i - 3).toNat else if i < 11 then Z 103 (i - 7).toNat else if i < 15 then Z 104 (i - 11).toNat else if i < 19 then Z 105 (i - 15).toNat else if i < 23 then Z 106 (i - 19).toNat else if i < 27 then Z 107 (i - 23).toNat else if i < 31 then Z 108 (i - 27).toNat else if i < 111 then Z 109 (i - 31).toNat else if i < 191 then Z 110 (i - 111).toNat else if i < 271 then Z 111 (i - 191).toNat else if i < 415 then Z 112 (i - 271).toNat else if i < 427 then Z 113 (i - 415).toNat else if i < 439 then Z 114 (i - 427).toNat else if i < 451 then Z 115 (i - 439).toNat else if i < 463 then Z 116 (i - 451).toNat else 0
def ix (o k : Nat) : Int := if o = 100 then (if k = 7 then 0 else if k = 2 then 1 else if k = 19 then 2 else 999) else if o = 101 then (if k < 4 then 3 + k else 999) else if o = 103 then (if k < 4 then 7 + k else 999) else if o = 104 then (if k < 4 then 11 + k else 999) else if o = 105 then (if k < 4 then 15 + k else 999) else if o = 106 then (if k < 4 then 19 + k else 999) else if o = 107 then (if k < 4 then 23 + k else 999) else if o = 108 then (if k < 4 then 27 + k else 999) else if o = 109 then (if k < 80 then 31 + k else 999) else if o = 110 then (if k < 80 then 111 + k else 999) else if o = 111 then (if k < 80 then 191 + k else 999) else if o = 112 then (if k < 144 then 271 + k else 999) else if o = 113 then (if k < 12 then 415 + k else 999) else if o = 114 then (if k < 12 then 427 + k else 999) else if o = 115 then (if k < 12 then 439 + k else 999) else if o = 116 then (if k < 12 then 451 + k else 999) else 999
def AL (P W : Int → Prop) : Prop := ∀ i : Int, 0 ≤ i → i < 463 → W i → P i
def KWP (Z0 Z : ZT) (k : Int) : Int → Prop := fun i => Z 121 (700 * k + i).toNat = KF Z0 i
def BWP (Z0 Z : ZT) (k : Int) : Int → Prop := fun i => KF Z i = Z0 121 (700 * k + i).toNat
def SM (Z0 Z : ZT) : Prop := ∀ o, o ≠ 121 → Z o = Z0 o
def OS (Z0 Z : ZT) (k : Int) : Prop := ∀ j : Int, 0 ≤ j → j ≤ 1 → j ≠ k → ∀ i : Int, 0 ≤ i → i < 463 → Z 121 (700 * j + i).toNat = Z0 121 (700 * j + i).toNat
theorem ix_rng {o k : Nat} {i : Int} (h : ix o k = i) (hi : i < 463) : (o = 100 ∧ (k = 7 ∧ i = 0 ∨ k = 2 ∧ i = 1 ∨ k = 19 ∧ i = 2)) ∨ (o = 101 ∧ k < 4 ∧ i = 3 + k) ∨ (o = 103 ∧ k < 4 ∧ i = 7 + k) ∨ (o = 104 ∧ k < 4 ∧ i = 11 + k) ∨ (o = 105 ∧ k < 4 ∧ i = 15 + k) ∨ (o = 106 ∧ k < 4 ∧ i = 19 + k) ∨ (o = 107 ∧ k < 4 ∧ i = 23 + k) ∨ (o = 108 ∧ k < 4 ∧ i = 27 + k) ∨ (o = 109 ∧ k < 80 ∧ i = 31 + k) ∨ (o = 110 ∧ k < 80 ∧ i = 111 + k) ∨ (o = 111 ∧ k < 80 ∧ i = 191 + k) ∨ (o = 112 ∧ k < 144 ∧ i = 271 + k) ∨ (o = 113 ∧ k < 12 ∧ i = 415 + k) ∨ (o = 114 ∧ k < 12 ∧ i = 427 + k) ∨ (o = 115 ∧ k < 12 ∧ i = 439 + k) ∨ (o = 116 ∧ k < 12 ∧ i = 451 + k) := by
  unfold ix at h
  by_cases h100 : o = 100
  · rw [if_pos h100] at h
    by_cases a7 : k = 7
    · rw [if_pos a7] at h
      exact Or.inl ⟨h100, Or.inl ⟨a7, by omega⟩⟩
    · rw [if_neg a7] at h
      by_cases a2 : k = 2
      · rw [if_pos a2] at h
        exact Or.inl ⟨h100, Or.inr (Or.inl ⟨a2, by omega⟩)⟩
      · rw [if_neg a2] at h
        by_cases a19 : k = 19
        · rw [if_pos a19] at h
          exact Or.inl ⟨h100, Or.inr (Or.inr ⟨a19, by omega⟩)⟩
        · rw [if_neg a19] at h
          exfalso
          omega
  rw [if_neg h100] at h
  by_cases h101 : o = 101
  · rw [if_pos h101] at h
    by_cases hk : k < 4
    · rw [if_pos hk] at h
      exact (Or.inr (Or.inl ⟨h101, hk, by omega⟩))
    · rw [if_neg hk] at h
      exfalso
      omega
  rw [if_neg h101] at h
  by_cases h103 : o = 103
  · rw [if_pos h103] at h
    by_cases hk : k < 4
    · rw [if_pos hk] at h
      exact (Or.inr (Or.inr (Or.inl ⟨h103, hk, by omega⟩)))
    · rw [if_neg hk] at h
      exfalso
      omega
  rw [if_neg h103] at h
  by_cases h104 : o = 104
  · rw [if_pos h104] at h
    by_cases hk : k < 4
    · rw [if_pos hk] at h
      exact (Or.inr (Or.inr (Or.inr (Or.inl ⟨h104, hk, by omega⟩))))
    · rw [if_neg hk] at h
      exfalso
      omega
  rw [if_neg h104] at h
  by_cases h105 : o = 105
  · rw [if_pos h105] at h
    by_cases hk : k < 4
    · rw [if_pos hk] at h
      exact (Or.inr (Or.inr (Or.inr (Or.inr (Or.inl ⟨h105, hk, by omega⟩)))))
    · rw [if_neg hk] at h
      exfalso
      omega
  rw [if_neg h105] at h
  by_cases h106 : o = 106
  · rw [if_pos h106] at h
    by_cases hk : k < 4
    · rw [if_pos hk] at h
      exact (Or.inr (Or.inr (Or.inr (Or.inr (Or.inr (Or.inl ⟨h106, hk, by omega⟩))))))
    · rw [if_neg hk] at h
      exfalso
      omega
  rw [if_neg h106] at h
  by_cases h107 : o = 107
  · rw [if_pos h107] at h
    by_cases hk : k < 4
    · rw [if_pos hk] at h
      exact (Or.inr (Or.inr (Or.inr (Or.inr (Or.inr (Or.inr (Or.inl ⟨h107, hk, by omega⟩)))))))
    · rw [if_neg hk] at h
      exfalso
      omega
  rw [if_neg h107] at h
  by_cases h108 : o = 108
  · rw [if_pos h108] at h
    by_cases hk : k < 4
    · rw [if_pos hk] at h
      exact (Or.inr (Or.inr (Or.inr (Or.inr (Or.inr (Or.inr (Or.inr (Or.inl ⟨h108, hk, by omega⟩))))))))
    · rw [if_neg hk] at h
      exfalso
      omega
  rw [if_neg h108] at h
  by_cases h109 : o = 109
  · rw [if_pos h109] at h
    by_cases hk : k < 80
    · rw [if_pos hk] at h
      exact (Or.inr (Or.inr (Or.inr (Or.inr (Or.inr (Or.inr (Or.inr (Or.inr (Or.inl ⟨h109, hk, by omega⟩)))))))))
    · rw [if_neg hk] at h
      exfalso
      omega
  rw [if_neg h109] at h
  by_cases h110 : o = 110
  · rw [if_pos h110] at h
    by_cases hk : k < 80
    · rw [if_pos hk] at h
      exact (Or.inr (Or.inr (Or.inr (Or.inr (Or.inr (Or.inr (Or.inr (Or.inr (Or.inr (Or.inl ⟨h110, hk, by omega⟩))))))))))
    · rw [if_neg hk] at h
      exfalso
      omega
  rw [if_neg h110] at h
  by_cases h111 : o = 111
  · rw [if_pos h111] at h
    by_cases hk : k < 80
    · rw [if_pos hk] at h
      exact (Or.inr (Or.inr (Or.inr (Or.inr (Or.inr (Or.inr (Or.inr (Or.inr (Or.inr (Or.inr (Or.inl ⟨h111, hk, by omega⟩)))))))))))
    · rw [if_neg hk] at h
      exfalso
      omega
  rw [if_neg h111] at h
  by_cases h112 : o = 112
  · rw [if_pos h112] at h
    by_cases hk : k < 144
    · rw [if_pos hk] at h
      exact (Or.inr (Or.inr (Or.inr (Or.inr (Or.inr (Or.inr (Or.inr (Or.inr (Or.inr (Or.inr (Or.inr (Or.inl ⟨h112, hk, by omega⟩))))))))))))
    · rw [if_neg hk] at h
      exfalso
      omega
  rw [if_neg h112] at h
  by_cases h113 : o = 113
  · rw [if_pos h113] at h
    by_cases hk : k < 12
    · rw [if_pos hk] at h
      exact (Or.inr (Or.inr (Or.inr (Or.inr (Or.inr (Or.inr (Or.inr (Or.inr (Or.inr (Or.inr (Or.inr (Or.inr (Or.inl ⟨h113, hk, by omega⟩)))))))))))))
    · rw [if_neg hk] at h
      exfalso
      omega
  rw [if_neg h113] at h
  by_cases h114 : o = 114
  · rw [if_pos h114] at h
    by_cases hk : k < 12
    · rw [if_pos hk] at h
      exact (Or.inr (Or.inr (Or.inr (Or.inr (Or.inr (Or.inr (Or.inr (Or.inr (Or.inr (Or.inr (Or.inr (Or.inr (Or.inr (Or.inl ⟨h114, hk, by omega⟩))))))))))))))
    · rw [if_neg hk] at h
      exfalso
      omega
  rw [if_neg h114] at h
  by_cases h115 : o = 115
  · rw [if_pos h115] at h
    by_cases hk : k < 12
    · rw [if_pos hk] at h
      exact (Or.inr (Or.inr (Or.inr (Or.inr (Or.inr (Or.inr (Or.inr (Or.inr (Or.inr (Or.inr (Or.inr (Or.inr (Or.inr (Or.inr (Or.inl ⟨h115, hk, by omega⟩)))))))))))))))
    · rw [if_neg hk] at h
      exfalso
      omega
  rw [if_neg h115] at h
  by_cases h116 : o = 116
  · rw [if_pos h116] at h
    by_cases hk : k < 12
    · rw [if_pos hk] at h
      exact (Or.inr (Or.inr (Or.inr (Or.inr (Or.inr (Or.inr (Or.inr (Or.inr (Or.inr (Or.inr (Or.inr (Or.inr (Or.inr (Or.inr (Or.inr (⟨h116, hk, by omega⟩))))))))))))))))
    · rw [if_neg hk] at h
      exfalso
      omega
  rw [if_neg h116] at h
  exfalso
  omega
theorem KF_ix {Z : ZT} {o k : Nat} {i : Int} (h : ix o k = i) (hi : i < 463) : KF Z i = Z o k := by
  unfold KF
  rcases ix_rng h hi with ⟨rfl, ⟨rfl, rfl⟩ | ⟨rfl, rfl⟩ | ⟨rfl, rfl⟩⟩ | ⟨rfl, hk, rfl⟩ | ⟨rfl, hk, rfl⟩ | ⟨rfl, hk, rfl⟩ | ⟨rfl, hk, rfl⟩ | ⟨rfl, hk, rfl⟩ | ⟨rfl, hk, rfl⟩ | ⟨rfl, hk, rfl⟩ | ⟨rfl, hk, rfl⟩ | ⟨rfl, hk, rfl⟩ | ⟨rfl, hk, rfl⟩ | ⟨rfl, hk, rfl⟩ | ⟨rfl, hk, rfl⟩ | ⟨rfl, hk, rfl⟩ | ⟨rfl, hk, rfl⟩ | ⟨rfl, hk, rfl⟩
  all_goals (try rfl)
  · rw [if_neg (by omega), if_neg (by omega), if_neg (by omega), if_pos (by omega), show ((3 : Int) + k - 3).toNat = k by omega]
  · rw [if_neg (by omega), if_neg (by omega), if_neg (by omega), if_neg (by omega), if_pos (by omega), show ((7 : Int) + k - 7).toNat = k by omega]
  · rw [if_neg (by omega), if_neg (by omega), if_neg (by omega), if_neg (by omega), if_neg (by omega), if_pos (by omega), show ((11 : Int) + k - 11).toNat = k by omega]
  · rw [if_neg (by omega), if_neg (by omega), if_neg (by omega), if_neg (by omega), if_neg (by omega), if_neg (by omega), if_pos (by omega), show ((15 : Int) + k - 15).toNat = k by omega]
  · rw [if_neg (by omega), if_neg (by omega), if_neg (by omega), if_neg (by omega), if_neg (by omega), if_neg (by omega), if_neg (by omega), if_pos (by omega), show ((19 : Int) + k - 19).toNat = k by omega]
  · rw [if_neg (by omega), if_neg (by omega), if_neg (by omega), if_neg (by omega), if_neg (by omega), if_neg (by omega), if_neg (by omega), if_neg (by omega), if_pos (by omega), show ((23 : Int) + k - 23).toNat = k by omega]
  · rw [if_neg (by omega), if_neg (by omega), if_neg (by omega), if_neg (by omega), if_neg (by omega), if_neg (by omega), if_neg (by omega), if_neg (by omega), if_neg (by omega), if_pos (by omega), show ((27 : Int) + k - 27).toNat = k by omega]
  · rw [if_neg (by omega), if_neg (by omega), if_neg (by omega), if_neg (by omega), if_neg (by omega), if_neg (by omega), if_neg (by omega), if_neg (by omega), if_neg (by omega), if_neg (by omega), if_pos (by omega), show ((31 : Int) + k - 31).toNat = k by omega]
  · rw [if_neg (by omega), if_neg (by omega), if_neg (by omega), if_neg (by omega), if_neg (by omega), if_neg (by omega), if_neg (by omega), if_neg (by omega), if_neg (by omega), if_neg (by omega), if_neg (by omega), if_pos (by omega), show ((111 : Int) + k - 111).toNat = k by omega]
  · rw [if_neg (by omega), if_neg (by omega), if_neg (by omega), if_neg (by omega), if_neg (by omega), if_neg (by omega), if_neg (by omega), if_neg (by omega), if_neg (by omega), if_neg (by omega), if_neg (by omega), if_neg (by omega), if_pos (by omega), show ((191 : Int) + k - 191).toNat = k by omega]
  · rw [if_neg (by omega), if_neg (by omega), if_neg (by omega), if_neg (by omega), if_neg (by omega), if_neg (by omega), if_neg (by omega), if_neg (by omega), if_neg (by omega), if_neg (by omega), if_neg (by omega), if_neg (by omega), if_neg (by omega), if_pos (by omega), show ((271 : Int) + k - 271).toNat = k by omega]
  · rw [if_neg (by omega), if_neg (by omega), if_neg (by omega), if_neg (by omega), if_neg (by omega), if_neg (by omega), if_neg (by omega), if_neg (by omega), if_neg (by omega), if_neg (by omega), if_neg (by omega), if_neg (by omega), if_neg (by omega), if_neg (by omega), if_pos (by omega), show ((415 : Int) + k - 415).toNat = k by omega]
  · rw [if_neg (by omega), if_neg (by omega), if_neg (by omega), if_neg (by omega), if_neg (by omega), if_neg (by omega), if_neg (by omega), if_neg (by omega), if_neg (by omega), if_neg (by omega), if_neg (by omega), if_neg (by omega), if_neg (by omega), if_neg (by omega), if_neg (by omega), if_pos (by omega), show ((427 : Int) + k - 427).toNat = k by omega]
  · rw [if_neg (by omega), if_neg (by omega), if_neg (by omega), if_neg (by omega), if_neg (by omega), if_neg (by omega), if_neg (by omega), if_neg (by omega), if_neg (by omega), if_neg (by omega), if_neg (by omega), if_neg (by omega), if_neg (by omega), if_neg (by omega), if_neg (by omega), if_neg (by omega), if_pos (by omega), show ((439 : Int) + k - 439).toNat = k by omega]
  · rw [if_neg (by omega), if_neg (by omega), if_neg (by omega), if_neg (by omega), if_neg (by omega), if_neg (by omega), if_neg (by omega), if_neg (by omega), if_neg (by omega), if_neg (by omega), if_neg (by omega), if_neg (by omega), if_neg (by omega), if_neg (by omega), if_neg (by omega), if_neg (by omega), if_neg (by omega), if_pos (by omega), show ((451 : Int) + k - 451).toNat = k by omega]
theorem ix_100 {i : Int} (h0 : 0 ≤ i) (h1 : i < 3) : ∃ k, ix 100 k = i := by
  have q : i = 0 ∨ i = 1 ∨ i = 2 := by omega
  rcases q with rfl | rfl | rfl
  · exact ⟨7, rfl⟩
  · exact ⟨2, rfl⟩
  · exact ⟨19, rfl⟩
theorem ix_101 {i : Int} (h0 : 3 ≤ i) (h1 : i < 7) : ∃ k, ix 101 k = i := by
  refine ⟨(i - 3).toNat, ?_⟩
  have e : ix 101 (i - 3).toNat = (if (i - 3).toNat < 4 then 3 + (((i - 3).toNat : Nat) : Int) else 999) := rfl
  rw [e, if_pos (by omega)]
  omega
theorem ix_103 {i : Int} (h0 : 7 ≤ i) (h1 : i < 11) : ∃ k, ix 103 k = i := by
  refine ⟨(i - 7).toNat, ?_⟩
  have e : ix 103 (i - 7).toNat = (if (i - 7).toNat < 4 then 7 + (((i - 7).toNat : Nat) : Int) else 999) := rfl
  rw [e, if_pos (by omega)]
  omega
theorem ix_104 {i : Int} (h0 : 11 ≤ i) (h1 : i < 15) : ∃ k, ix 104 k = i := by
  refine ⟨(i - 11).toNat, ?_⟩
  have e : ix 104 (i - 11).toNat = (if (i - 11).toNat < 4 then 11 + (((i - 11).toNat : Nat) : Int) else 999) := rfl
  rw [e, if_pos (by omega)]
  omega
theorem ix_105 {i : Int} (h0 : 15 ≤ i) (h1 : i < 19) : ∃ k, ix 105 k = i := by
  refine ⟨(i - 15).toNat, ?_⟩
  have e : ix 105 (i - 15).toNat = (if (i - 15).toNat < 4 then 15 + (((i - 15).toNat : Nat) : Int) else 999) := rfl
  rw [e, if_pos (by omega)]
  omega
theorem ix_106 {i : Int} (h0 : 19 ≤ i) (h1 : i < 23) : ∃ k, ix 106 k = i := by
  refine ⟨(i - 19).toNat, ?_⟩
  have e : ix 106 (i - 19).toNat = (if (i - 19).toNat < 4 then 19 + (((i - 19).toNat : Nat) : Int) else 999) := rfl
  rw [e, if_pos (by omega)]
  omega
theorem ix_107 {i : Int} (h0 : 23 ≤ i) (h1 : i < 27) : ∃ k, ix 107 k = i := by
  refine ⟨(i - 23).toNat, ?_⟩
  have e : ix 107 (i - 23).toNat = (if (i - 23).toNat < 4 then 23 + (((i - 23).toNat : Nat) : Int) else 999) := rfl
  rw [e, if_pos (by omega)]
  omega
theorem ix_108 {i : Int} (h0 : 27 ≤ i) (h1 : i < 31) : ∃ k, ix 108 k = i := by
  refine ⟨(i - 27).toNat, ?_⟩
  have e : ix 108 (i - 27).toNat = (if (i - 27).toNat < 4 then 27 + (((i - 27).toNat : Nat) : Int) else 999) := rfl
  rw [e, if_pos (by omega)]
  omega
theorem ix_109 {i : Int} (h0 : 31 ≤ i) (h1 : i < 111) : ∃ k, ix 109 k = i := by
  refine ⟨(i - 31).toNat, ?_⟩
  have e : ix 109 (i - 31).toNat = (if (i - 31).toNat < 80 then 31 + (((i - 31).toNat : Nat) : Int) else 999) := rfl
  rw [e, if_pos (by omega)]
  omega
theorem ix_110 {i : Int} (h0 : 111 ≤ i) (h1 : i < 191) : ∃ k, ix 110 k = i := by
  refine ⟨(i - 111).toNat, ?_⟩
  have e : ix 110 (i - 111).toNat = (if (i - 111).toNat < 80 then 111 + (((i - 111).toNat : Nat) : Int) else 999) := rfl
  rw [e, if_pos (by omega)]
  omega
theorem ix_111 {i : Int} (h0 : 191 ≤ i) (h1 : i < 271) : ∃ k, ix 111 k = i := by
  refine ⟨(i - 191).toNat, ?_⟩
  have e : ix 111 (i - 191).toNat = (if (i - 191).toNat < 80 then 191 + (((i - 191).toNat : Nat) : Int) else 999) := rfl
  rw [e, if_pos (by omega)]
  omega
theorem ix_112 {i : Int} (h0 : 271 ≤ i) (h1 : i < 415) : ∃ k, ix 112 k = i := by
  refine ⟨(i - 271).toNat, ?_⟩
  have e : ix 112 (i - 271).toNat = (if (i - 271).toNat < 144 then 271 + (((i - 271).toNat : Nat) : Int) else 999) := rfl
  rw [e, if_pos (by omega)]
  omega
theorem ix_113 {i : Int} (h0 : 415 ≤ i) (h1 : i < 427) : ∃ k, ix 113 k = i := by
  refine ⟨(i - 415).toNat, ?_⟩
  have e : ix 113 (i - 415).toNat = (if (i - 415).toNat < 12 then 415 + (((i - 415).toNat : Nat) : Int) else 999) := rfl
  rw [e, if_pos (by omega)]
  omega
theorem ix_114 {i : Int} (h0 : 427 ≤ i) (h1 : i < 439) : ∃ k, ix 114 k = i := by
  refine ⟨(i - 427).toNat, ?_⟩
  have e : ix 114 (i - 427).toNat = (if (i - 427).toNat < 12 then 427 + (((i - 427).toNat : Nat) : Int) else 999) := rfl
  rw [e, if_pos (by omega)]
  omega
theorem ix_115 {i : Int} (h0 : 439 ≤ i) (h1 : i < 451) : ∃ k, ix 115 k = i := by
  refine ⟨(i - 439).toNat, ?_⟩
  have e : ix 115 (i - 439).toNat = (if (i - 439).toNat < 12 then 439 + (((i - 439).toNat : Nat) : Int) else 999) := rfl
  rw [e, if_pos (by omega)]
  omega
theorem ix_116 {i : Int} (h0 : 451 ≤ i) (h1 : i < 463) : ∃ k, ix 116 k = i := by
  refine ⟨(i - 451).toNat, ?_⟩
  have e : ix 116 (i - 451).toNat = (if (i - 451).toNat < 12 then 451 + (((i - 451).toNat : Nat) : Int) else 999) := rfl
  rw [e, if_pos (by omega)]
  omega
theorem ix_ex {i : Int} (h0 : 0 ≤ i) (h1 : i < 463) : ∃ o k, ix o k = i := by
  by_cases c0 : i < 3
  · exact ⟨100, ix_100 (by omega) (by omega)⟩
  by_cases c1 : i < 7
  · exact ⟨101, ix_101 (by omega) (by omega)⟩
  by_cases c2 : i < 11
  · exact ⟨103, ix_103 (by omega) (by omega)⟩
  by_cases c3 : i < 15
  · exact ⟨104, ix_104 (by omega) (by omega)⟩
  by_cases c4 : i < 19
  · exact ⟨105, ix_105 (by omega) (by omega)⟩
  by_cases c5 : i < 23
  · exact ⟨106, ix_106 (by omega) (by omega)⟩
  by_cases c6 : i < 27
  · exact ⟨107, ix_107 (by omega) (by omega)⟩
  by_cases c7 : i < 31
  · exact ⟨108, ix_108 (by omega) (by omega)⟩
  by_cases c8 : i < 111
  · exact ⟨109, ix_109 (by omega) (by omega)⟩
  by_cases c9 : i < 191
  · exact ⟨110, ix_110 (by omega) (by omega)⟩
  by_cases c10 : i < 271
  · exact ⟨111, ix_111 (by omega) (by omega)⟩
  by_cases c11 : i < 415
  · exact ⟨112, ix_112 (by omega) (by omega)⟩
  by_cases c12 : i < 427
  · exact ⟨113, ix_113 (by omega) (by omega)⟩
  by_cases c13 : i < 439
  · exact ⟨114, ix_114 (by omega) (by omega)⟩
  by_cases c14 : i < 451
  · exact ⟨115, ix_115 (by omega) (by omega)⟩
  exact ⟨116, ix_116 (by omega) (by omega)⟩
theorem KF_no {Z Z' : ZT} {o k : Nat} {a i : Int} (hu : Z' = upZ Z o k a) (h0 : 0 ≤ i) (h1 : i < 463) (hn : ix o k ≠ i) : KF Z' i = KF Z i := by
  obtain ⟨p, q, e⟩ := ix_ex h0 h1
  rw [KF_ix e h1, KF_ix e h1, hu]
  refine if_neg (fun z => ?_)
  obtain ⟨rfl, rfl⟩ := z
  exact hn e
theorem AL_m {P W W' : Int → Prop} (h : AL P W) (hw : ∀ i : Int, 0 ≤ i → i < 463 → W' i → W i) : AL P W' := fun i h0 h1 w => h i h0 h1 (hw i h0 h1 w)
theorem AL_0 {P W : Int → Prop} (hw : ∀ i : Int, 0 ≤ i → i < 463 → ¬ W i) : AL P W := fun i h0 h1 w => absurd w (hw i h0 h1)
theorem KW_up {Z0 Z Z' : ZT} {k j x : Int} {o q : Nat} {W : Int → Prop} (hu : Z' = upZ Z 121 (700 * k + j).toNat x) (h : AL (KWP Z0 Z k) W) (hx : x = Z0 o q) (hj : ix o q = j) (hk : 0 ≤ k) (hj0 : 0 ≤ j) (hj1 : j < 463) : AL (KWP Z0 Z' k) (fun i => W i ∨ i = j) := by
  intro i h0 h1 w
  show Z' 121 _ = _
  rw [hu]
  by_cases hq : i = j
  · rw [hq, up_eq, hx, KF_ix hj hj1]
  · rw [up_nk (by omega)]
    exact h i h0 h1 (w.resolve_right hq)
theorem KW_o {Z0 Z Z' : ZT} {k : Int} {W : Int → Prop} (e : Z' 121 = Z 121) (h : AL (KWP Z0 Z k) W) : AL (KWP Z0 Z' k) W := by
  intro i h0 h1 w
  show Z' 121 _ = _
  rw [e]
  exact h i h0 h1 w
theorem BW_up {Z0 Z Z' : ZT} {k j x : Int} {o q : Nat} {W : Int → Prop} (hu : Z' = upZ Z o q x) (h : AL (BWP Z0 Z k) W) (hx : x = Z0 121 (700 * k + j).toNat) (hj : ix o q = j) (hj1 : j < 463) : AL (BWP Z0 Z' k) (fun i => W i ∨ i = j) := by
  intro i h0 h1 w
  show KF Z' i = _
  by_cases hq : i = j
  · rw [hq, KF_ix hj hj1, hu, up_eq, hx]
  · rw [KF_no hu h0 h1 (by omega)]
    exact h i h0 h1 (w.resolve_right hq)
theorem BW_121 {Z0 Z Z' : ZT} {k : Int} {W : Int → Prop} (e : ∀ o, o ≠ 121 → o < 1000 → Z' o = Z o) (h : AL (BWP Z0 Z k) W) : AL (BWP Z0 Z' k) W := by
  intro i h0 h1 w
  show KF Z' i = _
  have g : KF Z' i = KF Z i := by
    unfold KF
    simp only [e _ (show (100 : Nat) ≠ 121 by decide) (by decide), e _ (show (101 : Nat) ≠ 121 by decide) (by decide), e _ (show (103 : Nat) ≠ 121 by decide) (by decide), e _ (show (104 : Nat) ≠ 121 by decide) (by decide), e _ (show (105 : Nat) ≠ 121 by decide) (by decide), e _ (show (106 : Nat) ≠ 121 by decide) (by decide), e _ (show (107 : Nat) ≠ 121 by decide) (by decide), e _ (show (108 : Nat) ≠ 121 by decide) (by decide), e _ (show (109 : Nat) ≠ 121 by decide) (by decide), e _ (show (110 : Nat) ≠ 121 by decide) (by decide), e _ (show (111 : Nat) ≠ 121 by decide) (by decide), e _ (show (112 : Nat) ≠ 121 by decide) (by decide), e _ (show (113 : Nat) ≠ 121 by decide) (by decide), e _ (show (114 : Nat) ≠ 121 by decide) (by decide), e _ (show (115 : Nat) ≠ 121 by decide) (by decide), e _ (show (116 : Nat) ≠ 121 by decide) (by decide)]
  rw [g]
  exact h i h0 h1 w
theorem SM_r {Z : ZT} : SM Z Z := fun _ _ => rfl
theorem SM_up {Z0 Z Z' : ZT} {j : Nat} {x : Int} (hu : Z' = upZ Z 121 j x) (h : SM Z0 Z) : SM Z0 Z' := fun o ho => (up_o hu ho).trans (h o ho)
theorem SM_id {Z0 Z Z' : ZT} {o k : Nat} {x : Int} (hu : Z' = upZ Z o k x) (hx : x = Z0 o k) (h : SM Z0 Z) (ho : o ≠ 121) : SM Z0 Z' := fun p hp => by
  by_cases hq : p = o
  · subst hq
    exact (up_id hu (hx.trans (congrFun (h p hp) k).symm)).trans (h p hp)
  · exact (up_o hu hq).trans (h p hp)
theorem OS_r {Z : ZT} {k : Int} : OS Z Z k := fun _ _ _ _ _ _ _ => rfl
theorem OS_up {Z0 Z Z' : ZT} {k j x : Int} (hu : Z' = upZ Z 121 (700 * k + j).toNat x) (h : OS Z0 Z k) (hk : 0 ≤ k ∧ k ≤ 1) (hj : 0 ≤ j) (hj1 : j < 463) : OS Z0 Z' k := by
  intro l l0 l1 hl i h0 h1
  rw [hu, up_nk (by omega)]
  exact h l l0 l1 hl i h0 h1
theorem OS_o {Z0 Z Z' : ZT} {k : Int} (e : Z' 121 = Z 121) (h : OS Z0 Z k) : OS Z0 Z' k := fun l l0 l1 hl i h0 h1 => by rw [e]; exact h l l0 l1 hl i h0 h1
def WL (v : Int) : Int → Prop := fun i => i < 3 ∨ 3 ≤ i ∧ i < 31 ∧ (i - 3) % 4 < v
def WT (v : Int) : Int → Prop := fun i => i < 31 ∨ 31 ≤ i ∧ i < 271 ∧ (i - 31) % 80 < v
def WG (v : Int) : Int → Prop := fun i => i < 271 + v
def WP (v : Int) : Int → Prop := fun i => i < 415 ∨ 415 ≤ i ∧ (i - 415) % 12 < v
theorem WL_0 {P : Int → Prop} {v : Int} (h : AL P (fun i => (((False ∨ i = 0) ∨ i = 1) ∨ i = 2))) (hv : v = 0) : AL P (WL v) := AL_m h (fun i h0 h1 w => by unfold WL at w; omega)
theorem WL_s {P : Int → Prop} {v v' : Int} (h : AL P (fun i => (((((((WL v i ∨ i = w32 (3 + v)) ∨ i = w32 (7 + v)) ∨ i = w32 (11 + v)) ∨ i = w32 (15 + v)) ∨ i = w32 (19 + v)) ∨ i = w32 (23 + v)) ∨ i = w32 (27 + v)))) (h0 : 0 ≤ v) (h3 : v ≤ 3) (hv : v' = v + 1) : AL P (WL v') := AL_m h (fun i i0 i1 w => by
  subst hv
  simp (disch := omega) only [w32_id]
  unfold WL at w ⊢
  by_cases hq : i < 3 ∨ 3 ≤ i ∧ i < 31 ∧ (i - 3) % 4 < v
  · exact Or.inl (Or.inl (Or.inl (Or.inl (Or.inl (Or.inl (Or.inl hq))))))
  · have e : (i - 3) % 4 = v ∧ 3 ≤ i ∧ i < 31 := by omega
    have q : (i - 3) / 4 = 0 ∨ (i - 3) / 4 = 1 ∨ (i - 3) / 4 = 2 ∨ (i - 3) / 4 = 3 ∨ (i - 3) / 4 = 4 ∨ (i - 3) / 4 = 5 ∨ (i - 3) / 4 = 6 := by omega
    rcases q with q | q | q | q | q | q | q
    · exact Or.inl (Or.inl (Or.inl (Or.inl (Or.inl (Or.inl (Or.inr (by omega)))))))
    · exact Or.inl (Or.inl (Or.inl (Or.inl (Or.inl (Or.inr (by omega))))))
    · exact Or.inl (Or.inl (Or.inl (Or.inl (Or.inr (by omega)))))
    · exact Or.inl (Or.inl (Or.inl (Or.inr (by omega))))
    · exact Or.inl (Or.inl (Or.inr (by omega)))
    · exact Or.inl (Or.inr (by omega))
    · exact Or.inr (by omega))
theorem WT_0 {P : Int → Prop} {v v' : Int} (h : AL P (WL v)) (hv : 4 ≤ v) (h0 : v' = 0) : AL P (WT v') := AL_m h (fun i h0 h1 w => by unfold WT at w; unfold WL; omega)
theorem WT_s {P : Int → Prop} {v v' : Int} (h : AL P (fun i => (((WT v i ∨ i = w32 (31 + v)) ∨ i = w32 (111 + v)) ∨ i = w32 (191 + v)))) (h0 : 0 ≤ v) (h3 : v ≤ 79) (hv : v' = v + 1) : AL P (WT v') := AL_m h (fun i i0 i1 w => by
  subst hv
  simp (disch := omega) only [w32_id]
  unfold WT at w ⊢
  by_cases hq : i < 31 ∨ 31 ≤ i ∧ i < 271 ∧ (i - 31) % 80 < v
  · exact Or.inl (Or.inl (Or.inl hq))
  · have e : (i - 31) % 80 = v ∧ 31 ≤ i ∧ i < 271 := by omega
    have q : (i - 31) / 80 = 0 ∨ (i - 31) / 80 = 1 ∨ (i - 31) / 80 = 2 := by omega
    rcases q with q | q | q
    · exact Or.inl (Or.inl (Or.inr (by omega)))
    · exact Or.inl (Or.inr (by omega))
    · exact Or.inr (by omega))
theorem WG_0 {P : Int → Prop} {v v' : Int} (h : AL P (WT v)) (hv : 80 ≤ v) (h0 : v' = 0) : AL P (WG v') := AL_m h (fun i h0 h1 w => by unfold WG at w; unfold WT; omega)
theorem WG_s {P : Int → Prop} {v v' : Int} (h : AL P (fun i => (WG v i ∨ i = w32 (271 + v)))) (h0 : 0 ≤ v) (h3 : v ≤ 143) (hv : v' = v + 1) : AL P (WG v') := AL_m h (fun i i0 i1 w => by
  subst hv
  simp (disch := omega) only [w32_id]
  unfold WG at w ⊢
  omega)
theorem WP_0 {P : Int → Prop} {v v' : Int} (h : AL P (WG v)) (hv : 144 ≤ v) (h0 : v' = 0) : AL P (WP v') := AL_m h (fun i h0 h1 w => by unfold WP at w; unfold WG; omega)
theorem WP_s {P : Int → Prop} {v v' : Int} (h : AL P (fun i => ((((WP v i ∨ i = w32 (415 + v)) ∨ i = w32 (427 + v)) ∨ i = w32 (439 + v)) ∨ i = w32 (451 + v)))) (h0 : 0 ≤ v) (h3 : v ≤ 11) (hv : v' = v + 1) : AL P (WP v') := AL_m h (fun i i0 i1 w => by
  subst hv
  simp (disch := omega) only [w32_id]
  unfold WP at w ⊢
  by_cases hq : i < 415 ∨ 415 ≤ i ∧ (i - 415) % 12 < v
  · exact Or.inl (Or.inl (Or.inl (Or.inl hq)))
  · have e : (i - 415) % 12 = v ∧ 415 ≤ i := by omega
    have q : (i - 415) / 12 = 0 ∨ (i - 415) / 12 = 1 ∨ (i - 415) / 12 = 2 ∨ (i - 415) / 12 = 3 := by omega
    rcases q with q | q | q | q
    · exact Or.inl (Or.inl (Or.inl (Or.inr (by omega))))
    · exact Or.inl (Or.inl (Or.inr (by omega)))
    · exact Or.inl (Or.inr (by omega))
    · exact Or.inr (by omega))
theorem WP_e {P : Int → Prop} {v : Int} (h : AL P (WP v)) (hv : 12 ≤ v) : AL P (fun _ => True) := AL_m h (fun i h0 h1 w => by unfold WP; omega)
theorem kp_121 {Z Z' : ZT} {o : Nat} (h : kp [121] Z Z') (ho : o ≠ 121) : o < 1000 → Z' o = Z o := fun h1 => funext fun k => h o k h1 (by simpa using ho) (by simp; omega)
