/-! ===== the grid: what lies beside each cell ===== -/
def foundF (W H x y f e : Int) : Int := if 0 ≤ x ∧ x < W ∧ 0 ≤ y ∧ y < H then W * y + x else if e = 1 then f else if e = 2 then -1 else W * (if y < 0 then H - 1 else if H ≤ y then 0 else y) + (if x < 0 then W - 1 else if W ≤ x then 0 else x)
def nv (W H e x y c : Int) (s : Nat) : Int := match s with
  | 0 => c
  | 1 => foundF W H x (y - 1) c e
  | 2 => foundF W H (x + 1) y c e
  | 3 => foundF W H x (y + 1) c e
  | _ => foundF W H (x - 1) y c e
/-- what lies on a side of a cell (0 itself, then n, e, s, w), or -1 -/
def nx (W H e c : Int) (s : Nat) : Int := nv W H e (c % W) (c / W) c s
def NR (Z : ZT) (o : Nat) (W H e n : Int) : Prop := ∀ c : Nat, (c : Int) < n → ∀ s : Nat, s ≤ 4 → Z o (5 * c + s) = nx W H e c s
def NRQ (Z : ZT) (o : Nat) (W H e x y c : Int) (k : Nat) : Prop := NR Z o W H e c ∧ ∀ s : Nat, s < k → Z o (5 * c.toNat + s) = nv W H e x y c s
theorem cdm {W y x : Int} (hW : 1 ≤ W ∧ W ≤ 6) (hx : 0 ≤ x ∧ x < W) : (W * y + x) % W = x ∧ (W * y + x) / W = y := by
  have h : W = 1 ∨ W = 2 ∨ W = 3 ∨ W = 4 ∨ W = 5 ∨ W = 6 := by omega
  rcases h with rfl | rfl | rfl | rfl | rfl | rfl <;> omega
theorem NRQ_0 {Z : ZT} {o : Nat} {W H e x y c : Int} (h : NR Z o W H e c) : NRQ Z o W H e x y c 0 := ⟨h, fun s hs => absurd hs (Nat.not_lt_zero s)⟩
theorem NRQ_s {Z Z' : ZT} {o j k : Nat} {W H e x y c a : Int} (h : NRQ Z o W H e x y c k) (hu : Z' = upZ Z o j a) (hj : j = 5 * c.toNat + k) (ha : a = nv W H e x y c k) (h0 : 0 ≤ c) (hk : k ≤ 4) : NRQ Z' o W H e x y c (k + 1) := by
  refine ⟨fun c' hc s hs => ?_, fun s hs => ?_⟩
  · rw [hu, up_nk (by omega)]
    exact h.1 c' hc s hs
  · rw [hu]
    by_cases hq : s = k
    · rw [hq, ← hj, up_eq]
      exact ha
    · rw [up_nk (by omega)]
      exact h.2 s (by omega)
theorem NRQ_5 {Z : ZT} {o : Nat} {W H e x y c n : Int} (h : NRQ Z o W H e x y c 5) (hc : c = W * y + x) (hW : 1 ≤ W ∧ W ≤ 6) (hx : 0 ≤ x ∧ x < W) (h0 : 0 ≤ c) (hn : n = c + 1) : NR Z o W H e n := by
  subst hn
  intro c' hc' s hs
  by_cases hq : (c' : Int) < c
  · exact h.1 c' hq s hs
  · have e1 : (c' : Int) = c := by omega
    have e2 : c' = c.toNat := by omega
    have q := h.2 s (by omega)
    obtain ⟨d1, d2⟩ := cdm (y := y) hW hx
    unfold nx
    rw [e1, e2, q, hc, d1, d2]
theorem NR_o {Z Z' : ZT} {o : Nat} {W H e n : Int} (q : Z' o = Z o) (h : NR Z o W H e n) : NR Z' o W H e n := by
  unfold NR at h ⊢
  rw [q]
  exact h
theorem NR_0 {Z : ZT} {o : Nat} {W H e n : Int} (hn : n ≤ 0) : NR Z o W H e n := fun c hc => by omega
theorem NR_m {Z : ZT} {o : Nat} {W H e n n' : Int} (h : NR Z o W H e n) (hn : n' = n) : NR Z o W H e n' := by
  subst hn
  exact h
theorem fd_at {v W H x y f e : Int} (h : v = foundF W H x y f e) : ∀ W' H' x' y' f' e', W' = W → H' = H → x' = x → y' = y → f' = f → e' = e → v = foundF W' H' x' y' f' e' := by
  rintro W' H' x' y' f' e' rfl rfl rfl rfl rfl rfl
  exact h
theorem mul_s {W y y' : Int} (h : y' = y + 1) : W * y' = W * y + W := by rw [h, Int.mul_add, Int.mul_one]
