/-! ===== the model's reader: a line, the text, the plan ===== -/
theorem DL_fin {Z Zb Z7 : ZT} {i : Nat} {v1 : Int} (f : Z7 103 = upZ Zb 103 i v1 103) (e : Zb 103 = Z 103) (h8 : 0 ≤ Z 100 8) (h : DL Z) (hi : i = 4 + (Z 100 8).toNat) (g : Z7 100 8 = Z 100 8 + 1) (hn : ∀ k : Nat, (k : Int) < Z 100 8 → Z 103 (4 + k) ≠ v1) : DL Z7 := by
  intro a b hab hb
  have q : ∀ k, Z7 103 k = if k = i then v1 else Z 103 k := fun k => by
    rw [f]
    by_cases hk : k = i
    · rw [if_pos hk, hk, up_eq]
    · rw [if_neg hk, up_nk hk, e]
  rw [q, q]
  rw [g] at hb
  by_cases hq : (b : Int) < Z 100 8
  · rw [if_neg (by omega), if_neg (by omega)]
    exact h a b hab hq
  · rw [if_neg (by omega), if_pos (by omega)]
    exact hn a (by omega)
theorem E8_fin {Z Za Zc Z7 : ZT} {j : Nat} {a d : Int} (f4 : Z7 104 = upZ Za 104 j a 104) (f7 : Z7 107 = upZ Zc 107 j d 107) (e4 : Za 104 = Z 104) (e7 : Zc 107 = Z 107) (h : E8 Z) (hd : 1 ≤ d ∧ d ≤ 1000) : E8 Z7 := by
  intro l hl h0
  rw [f4] at h0
  rw [f7]
  by_cases hq : l = j
  · rw [hq, up_eq]
    exact hd
  · rw [up_nk hq, e4] at h0
    rw [up_nk hq, e7]
    exact h l hl h0
theorem E8_cp {Z Za Zc Z7 : ZT} {l a d : Int} (f4 : Z7 104 = upZ Za 104 l.toNat a 104) (f7 : Z7 107 = upZ Zc 107 l.toNat d 107) (e4 : Za 104 = Z 104) (e7 : Zc 107 = Z 107) (ha : a = Z 104 (w32 (4 + l)).toNat) (hd : d = Z 107 (w32 (4 + l)).toNat) (h : E8 Z) (h0 : 0 ≤ l) (h3 : l ≤ 3) : E8 Z7 := by
  intro k hk q0
  rw [f4] at q0
  rw [f7]
  by_cases hq : k = l.toNat
  · rw [hq, up_eq] at q0 ⊢
    rw [ha] at q0
    rw [hd]
    exact h _ (by rw [w32_id (by omega) (by omega)]; omega) q0
  · rw [up_nk hq, e4] at q0
    rw [up_nk hq, e7]
    exact h k hk q0
