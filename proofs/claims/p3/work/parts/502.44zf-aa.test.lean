/-! ===== told sums, counts: exactly ===== -/
theorem TS_s {Z Zc : ZT} {o : Nat} {n c : Int} {D : Prop} [Decidable D] (e : Zc o = Z o) (hD : D) : ∀ k : Nat, (k : Int) < n → Zc o k = if D then Z o k else c := fun k _ => by
  rw [if_pos hD, e]
theorem TS_f {Z Zc : ZT} {o : Nat} {n c : Int} {D : Prop} [Decidable D] (fl : FL Zc o c n) (hD : ¬D) : ∀ k : Nat, (k : Int) < n → Zc o k = if D then Z o k else c := fun k hk => by
  rw [if_neg hD]
  exact fl k hk
theorem TS_a {Z' Zc : ZT} {o q : Nat} {n a : Int} {E : Nat → Prop} [DecidablePred E] {g : Nat → Int} (f : Z' o = upZ Zc o q a o) (hE : ∀ k : Nat, E k ↔ k = q) (b : ∀ k : Nat, (k : Int) < n → Zc o k = g k) : ∀ k : Nat, (k : Int) < n → Z' o k = if E k then a else g k := fun k hk => by
  rw [f]
  by_cases hq : k = q
  · rw [if_pos ((hE k).mpr hq), hq, up_eq]
  · rw [if_neg (fun h => hq ((hE k).mp h)), up_nk hq]
    exact b k hk
theorem TS_n {Z' : ZT} {o : Nat} {n a : Int} {E : Nat → Prop} [DecidablePred E] {g : Nat → Int} (hE : ∀ k : Nat, ¬E k) (b : ∀ k : Nat, (k : Int) < n → Z' o k = g k) : ∀ k : Nat, (k : Int) < n → Z' o k = if E k then a else g k := fun k hk => by
  rw [if_neg (hE k)]
  exact b k hk
/-- how many of the first n are c; are not c -/
def cnt (f : Nat → Int) (c : Int) : Nat → Int
  | 0 => 0
  | n + 1 => cnt f c n + (if f n = c then 1 else 0)
theorem cnt_r (f : Nat → Int) (c : Int) : ∀ n : Nat, 0 ≤ cnt f c n ∧ cnt f c n ≤ n
  | 0 => ⟨Int.le_refl 0, Int.le_refl 0⟩
  | n + 1 => by
    have ih := cnt_r f c n
    have e : cnt f c (n + 1) = cnt f c n + (if f n = c then 1 else 0) := rfl
    rw [e]
    split <;> omega
theorem cnt_y {f : Nat → Int} {c v v' x y z : Int} (hx : x = cnt f c v.toNat) (hy : y = f v.toNat) (h : y = c) (h0 : 0 ≤ v) (hv : v' = v + 1) (hz : z = x + 1) : z = cnt f c v'.toNat := by
  have e : v'.toNat = v.toNat + 1 := by omega
  rw [e]
  show z = cnt f c v.toNat + (if f v.toNat = c then 1 else 0)
  rw [if_pos (by rw [← hy]; exact h)]
  omega
theorem cnt_n {f : Nat → Int} {c v v' x y : Int} (hx : x = cnt f c v.toNat) (hy : y = f v.toNat) (h : y ≠ c) (h0 : 0 ≤ v) (hv : v' = v + 1) : x = cnt f c v'.toNat := by
  have e : v'.toNat = v.toNat + 1 := by omega
  rw [e]
  show x = cnt f c v.toNat + (if f v.toNat = c then 1 else 0)
  rw [if_neg (by rw [← hy]; exact h)]
  omega
theorem cnt_0 {f : Nat → Int} {c x v : Int} (hv : v = 0) (hx : x = 0) : x = cnt f c v.toNat := by
  subst hv
  exact hx
theorem cnt_e {f : Nat → Int} {c x v : Int} {n : Nat} (h : x = cnt f c v.toNat) (hn : v.toNat = n) : x = cnt f c n := by
  rw [h, hn]
theorem cnt_eq {f g : Nat → Int} {c : Int} : ∀ n : Nat, (∀ k : Nat, k < n → f k = g k) → cnt f c n = cnt g c n
  | 0, _ => rfl
  | n + 1, h => by
    show cnt f c n + (if f n = c then 1 else 0) = cnt g c n + (if g n = c then 1 else 0)
    rw [cnt_eq n (fun k hk => h k (by omega)), h n (by omega)]
/-- how many of the first n have been told -/
def cnu (f : Nat → Int) : Nat → Int
  | 0 => 0
  | n + 1 => cnu f n + (if f n = 2000000000000 then 0 else 1)
theorem cnu_r (f : Nat → Int) : ∀ n : Nat, 0 ≤ cnu f n ∧ cnu f n ≤ n
  | 0 => ⟨Int.le_refl 0, Int.le_refl 0⟩
  | n + 1 => by
    have ih := cnu_r f n
    have e : cnu f (n + 1) = cnu f n + (if f n = 2000000000000 then 0 else 1) := rfl
    rw [e]
    split <;> omega
theorem cnu_s {f : Nat → Int} {v v' : Int} (h0 : 0 ≤ v) (hv : v' = v + 1) : cnu f v'.toNat = cnu f v.toNat + (if f v.toNat = 2000000000000 then 0 else 1) := by
  have e : v'.toNat = v.toNat + 1 := by omega
  rw [e]
  rfl
theorem cnu_1 {f : Nat → Int} {v v' x y z : Int} (hx : x = cnu f v.toNat) (hy : y = f v.toNat) (hz : y = 2000000000000 ∧ z = x ∨ y ≠ 2000000000000 ∧ z = x + 1) (h0 : 0 ≤ v) (hv : v' = v + 1) : z = cnu f v'.toNat := by
  rw [cnu_s h0 hv, ← hy, ← hx]
  split <;> omega
theorem cnu_2 {f g : Nat → Int} {v v' x y y' z : Int} (hx : x = cnu f v.toNat + cnu g v.toNat) (hy : y = f v.toNat) (hy' : y' = g v.toNat) (hz : z = x + (if y = 2000000000000 then 0 else 1) + (if y' = 2000000000000 then 0 else 1)) (h0 : 0 ≤ v) (hv : v' = v + 1) : z = cnu f v'.toNat + cnu g v'.toNat := by
  rw [cnu_s h0 hv, cnu_s h0 hv, ← hy, ← hy']
  omega
theorem cnu_0 {f g : Nat → Int} {x v : Int} (hv : v = 0) (hx : x = 0) : x = cnu f v.toNat + cnu g v.toNat := by
  subst hv
  exact hx
theorem cnu_z {f : Nat → Int} {x v : Int} (hv : v = 0) (hx : x = 0) : x = cnu f v.toNat := by
  subst hv
  exact hx
theorem cnu_eq {f g : Nat → Int} : ∀ n : Nat, (∀ k : Nat, k < n → f k = g k) → cnu f n = cnu g n
  | 0, _ => rfl
  | n + 1, h => by
    show cnu f n + (if f n = 2000000000000 then 0 else 1) = cnu g n + (if g n = 2000000000000 then 0 else 1)
    rw [cnu_eq n (fun k hk => h k (by omega)), h n (by omega)]
theorem cnu_add (f : Nat → Int) (m : Nat) : ∀ n : Nat, cnu f (m + n) = cnu f m + cnu (fun k => f (m + k)) n
  | 0 => (Int.add_zero _).symm
  | n + 1 => by
    show cnu f (m + n) + (if f (m + n) = 2000000000000 then 0 else 1) = cnu f m + (cnu (fun k => f (m + k)) n + (if f (m + n) = 2000000000000 then 0 else 1))
    rw [cnu_add f m n]
    omega
theorem cells_r {Z : ZT} (hI : CI Z) : 4 ≤ Z 100 0 * Z 100 1 ∧ Z 100 0 * Z 100 1 ≤ 36 := by
  have h0 : 2 ≤ Z 100 0 ∧ Z 100 0 ≤ 6 := hI 100 0 2 6 rfl
  have h1 : 2 ≤ Z 100 1 ∧ Z 100 1 ≤ 6 := hI 100 1 2 6 rfl
  constructor
  · exact Int.le_trans (by decide : (4 : Int) ≤ 2 * 2) (Int.mul_le_mul h0.1 h1.1 (by decide) (by omega))
  · exact Int.le_trans (Int.mul_le_mul h0.2 h1.2 (by omega) (by decide)) (by decide : (6 : Int) * 6 ≤ 36)
