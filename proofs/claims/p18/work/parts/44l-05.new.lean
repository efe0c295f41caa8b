/-! ===== what constructors call: what it writes ===== -/
abbrev FV2 (Z : ZT) : Prop := Z 2 0 = 3 ∧ Z 2 1 = 3 ∧ Z 2 2 = 9 ∧ NR Z 3 3 3 0 (3 * 3)
theorem FV2_o {Z Z' : ZT} (h : ∀ o, 2 ≤ o → o ≤ 3 → Z' o = Z o) (g : FV2 Z) : FV2 Z' := by
  unfold FV2 at g ⊢
  (try unfold FL at g ⊢)
  (try unfold OI at g ⊢)
  (try unfold NR at g ⊢)
  simp only [h 2 (by decide) (by decide), h 3 (by decide) (by decide)]
  exact g
abbrev FV6 (Z : ZT) : Prop := Z 6 1 = 0
theorem FV6_o {Z Z' : ZT} (h : ∀ o, 6 ≤ o → o ≤ 7 → Z' o = Z o) (g : FV6 Z) : FV6 Z' := by
  unfold FV6 at g ⊢
  (try unfold FL at g ⊢)
  (try unfold OI at g ⊢)
  (try unfold NR at g ⊢)
  simp only [h 6 (by decide) (by decide)]
  exact g
abbrev FV18 (Z : ZT) : Prop := Z 18 3 = 0 ∧ Z 18 4 = 0 ∧ FL Z 29 2000000 144 ∧ (∀ k : Nat, Z 30 k = 0) ∧ (∀ k : Nat, Z 31 k = 0) ∧ (∀ k : Nat, Z 32 k = 0) ∧ (∀ k : Nat, Z 33 k = 0) ∧ (∀ k : Nat, Z 34 k = 0) ∧ Z 19 0 = 0 ∧ Z 19 1 = 0 ∧ OI Z 20 4 ∧ FL Z 21 (-1) 4
theorem FV18_o {Z Z' : ZT} (h : ∀ o, 18 ≤ o → o ≤ 34 → Z' o = Z o) (g : FV18 Z) : FV18 Z' := by
  unfold FV18 at g ⊢
  (try unfold FL at g ⊢)
  (try unfold OI at g ⊢)
  (try unfold NR at g ⊢)
  simp only [h 18 (by decide) (by decide), h 19 (by decide) (by decide), h 20 (by decide) (by decide), h 21 (by decide) (by decide), h 29 (by decide) (by decide), h 30 (by decide) (by decide), h 31 (by decide) (by decide), h 32 (by decide) (by decide), h 33 (by decide) (by decide), h 34 (by decide) (by decide)]
  exact g
abbrev FV70 (Z : ZT) : Prop := Z 70 4 = -1 ∧ Z 70 0 = 36 ∧ Z 70 1 = 0
theorem FV70_o {Z Z' : ZT} (h : ∀ o, 70 ≤ o → o ≤ 71 → Z' o = Z o) (g : FV70 Z) : FV70 Z' := by
  unfold FV70 at g ⊢
  (try unfold FL at g ⊢)
  (try unfold OI at g ⊢)
  (try unfold NR at g ⊢)
  simp only [h 70 (by decide) (by decide)]
  exact g
abbrev FV72 (Z : ZT) : Prop := Z 72 4 = -1 ∧ Z 72 0 = 36 ∧ Z 72 1 = 1 ∧ Z 72 3 = -1
theorem FV72_o {Z Z' : ZT} (h : ∀ o, 72 ≤ o → o ≤ 73 → Z' o = Z o) (g : FV72 Z) : FV72 Z' := by
  unfold FV72 at g ⊢
  (try unfold FL at g ⊢)
  (try unfold OI at g ⊢)
  (try unfold NR at g ⊢)
  simp only [h 72 (by decide) (by decide)]
  exact g
abbrev FV74 (Z : ZT) : Prop := Z 74 4 = -1 ∧ Z 74 0 = 36 ∧ Z 74 1 = 1
theorem FV74_o {Z Z' : ZT} (h : ∀ o, 74 ≤ o → o ≤ 75 → Z' o = Z o) (g : FV74 Z) : FV74 Z' := by
  unfold FV74 at g ⊢
  (try unfold FL at g ⊢)
  (try unfold OI at g ⊢)
  (try unfold NR at g ⊢)
  simp only [h 74 (by decide) (by decide)]
  exact g
abbrev FV76 (Z : ZT) : Prop := Z 76 4 = -1 ∧ Z 76 0 = 9 ∧ Z 76 1 = 0
theorem FV76_o {Z Z' : ZT} (h : ∀ o, 76 ≤ o → o ≤ 77 → Z' o = Z o) (g : FV76 Z) : FV76 Z' := by
  unfold FV76 at g ⊢
  (try unfold FL at g ⊢)
  (try unfold OI at g ⊢)
  (try unfold NR at g ⊢)
  simp only [h 76 (by decide) (by decide)]
  exact g
abbrev FV78 (Z : ZT) : Prop := Z 78 1 = -1
theorem FV78_o {Z Z' : ZT} (h : ∀ o, 78 ≤ o → o ≤ 79 → Z' o = Z o) (g : FV78 Z) : FV78 Z' := by
  unfold FV78 at g ⊢
  (try unfold FL at g ⊢)
  (try unfold OI at g ⊢)
  (try unfold NR at g ⊢)
  simp only [h 78 (by decide) (by decide)]
  exact g
abbrev FV80 (Z : ZT) : Prop := FL Z 81 2000000000000 6 ∧ FL Z 82 2000000000000 6 ∧ Z 80 0 = 0 ∧ Z 80 1 = 0 ∧ (∀ k : Nat, Z 85 k = 0)
theorem FV80_o {Z Z' : ZT} (h : ∀ o, 80 ≤ o → o ≤ 85 → Z' o = Z o) (g : FV80 Z) : FV80 Z' := by
  unfold FV80 at g ⊢
  (try unfold FL at g ⊢)
  (try unfold OI at g ⊢)
  (try unfold NR at g ⊢)
  simp only [h 80 (by decide) (by decide), h 81 (by decide) (by decide), h 82 (by decide) (by decide), h 85 (by decide) (by decide)]
  exact g
abbrev FV86 (Z : ZT) : Prop := Z 86 1 = 1 ∧ (∀ k : Nat, k < 6 → Z 87 k = 5)
theorem FV86_o {Z Z' : ZT} (h : ∀ o, 86 ≤ o → o ≤ 87 → Z' o = Z o) (g : FV86 Z) : FV86 Z' := by
  unfold FV86 at g ⊢
  (try unfold FL at g ⊢)
  (try unfold OI at g ⊢)
  (try unfold NR at g ⊢)
  simp only [h 86 (by decide) (by decide), h 87 (by decide) (by decide)]
  exact g
abbrev FV88 (Z : ZT) : Prop := Z 88 4 = 0 ∧ (∀ k : Nat, Z 89 k = 0) ∧ (∀ k : Nat, Z 91 k = 0) ∧ (∀ k : Nat, Z 90 k = 0)
theorem FV88_o {Z Z' : ZT} (h : ∀ o, 88 ≤ o → o ≤ 92 → Z' o = Z o) (g : FV88 Z) : FV88 Z' := by
  unfold FV88 at g ⊢
  (try unfold FL at g ⊢)
  (try unfold OI at g ⊢)
  (try unfold NR at g ⊢)
  simp only [h 88 (by decide) (by decide), h 89 (by decide) (by decide), h 90 (by decide) (by decide), h 91 (by decide) (by decide)]
  exact g
abbrev FV93 (Z : ZT) : Prop := Z 93 3 = 0
theorem FV93_o {Z Z' : ZT} (h : ∀ o, 93 ≤ o → o ≤ 99 → Z' o = Z o) (g : FV93 Z) : FV93 Z' := by
  unfold FV93 at g ⊢
  (try unfold FL at g ⊢)
  (try unfold OI at g ⊢)
  (try unfold NR at g ⊢)
  simp only [h 93 (by decide) (by decide)]
  exact g
abbrev FV19 (Z : ZT) : Prop := Z 19 0 = 0 ∧ Z 19 1 = 0 ∧ OI Z 20 4 ∧ FL Z 21 (-1) 4
theorem FV19_o {Z Z' : ZT} (h : ∀ o, 19 ≤ o → o ≤ 28 → Z' o = Z o) (g : FV19 Z) : FV19 Z' := by
  unfold FV19 at g ⊢
  unfold FL OI at g ⊢
  simp only [h 19 (by decide) (by decide), h 20 (by decide) (by decide), h 21 (by decide) (by decide)]
  exact g
abbrev FV10 (Z : ZT) : Prop := Z 1 5 = 0 ∧ FV2 Z ∧ FV6 Z ∧ FV18 Z ∧ FV70 Z ∧ FV72 Z ∧ FV74 Z ∧ FV76 Z ∧ FV78 Z ∧ FV80 Z ∧ FV86 Z ∧ FV88 Z ∧ FV93 Z
theorem FV10_o {Z Z' : ZT} (h : ∀ o, 1 ≤ o → o ≤ 99 → Z' o = Z o) (g : FV10 Z) : FV10 Z' := by
  obtain ⟨g1, g2, g6, g18, g70, g72, g74, g76, g78, g80, g86, g88, g93⟩ := g
  refine ⟨by rw [h 1 (by decide) (by decide)]; exact g1, FV2_o (fun o h1 h2 => h o (by omega) (by omega)) g2, FV6_o (fun o h1 h2 => h o (by omega) (by omega)) g6, FV18_o (fun o h1 h2 => h o (by omega) (by omega)) g18, FV70_o (fun o h1 h2 => h o (by omega) (by omega)) g70, FV72_o (fun o h1 h2 => h o (by omega) (by omega)) g72, FV74_o (fun o h1 h2 => h o (by omega) (by omega)) g74, FV76_o (fun o h1 h2 => h o (by omega) (by omega)) g76, FV78_o (fun o h1 h2 => h o (by omega) (by omega)) g78, FV80_o (fun o h1 h2 => h o (by omega) (by omega)) g80, FV86_o (fun o h1 h2 => h o (by omega) (by omega)) g86, FV88_o (fun o h1 h2 => h o (by omega) (by omega)) g88, FV93_o (fun o h1 h2 => h o (by omega) (by omega)) g93⟩
abbrev FV11 (Z : ZT) : Prop := Z 100 0 = 3 ∧ Z 100 1 = 3 ∧ Z 100 2 = 0 ∧ Z 100 3 = 1 ∧ Z 100 5 = 0 ∧ Z 100 7 = 0 ∧ Z 100 19 = 0 ∧ Z 100 24 = 0 ∧ Z 100 25 = 0 ∧ Z 100 30 = 0 ∧ (∀ k : Nat, Z 101 k = 0) ∧ (∀ k : Nat, Z 113 k = 0) ∧ (∀ k : Nat, Z 114 k = 0) ∧ (∀ k : Nat, Z 115 k = 0) ∧ (∀ k : Nat, Z 116 k = 0) ∧ (∀ k : Nat, Z 118 k = 0) ∧ (∀ k : Nat, k < 6 → Z 119 k = 5) ∧ FL Z 112 2000000 144 ∧ FL Z 117 2000000000000 12 ∧ FL Z 120 0 36 ∧ (∀ k : Nat, k < 4 → Z 104 k = -4)
