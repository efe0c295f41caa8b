/-! ===== numbers: what the class makes ===== -/
/-- how many cells a board has room for; its row by places -/
def rmB (b : Nat) : Nat := if b = 76 then 9 else 36
def BR (Z : ZT) (b k : Nat) : Int := Z (b + 1) (4 * rmB b * (k / 144) + k % 144)
theorem BR_at {Z : ZT} {b s c l : Nat} (hc : 4 * c + l < 144) : BR Z b (144 * s + 4 * c + l) = Z (b + 1) (4 * rmB b * s + 4 * c + l) := by
  unfold BR
  rw [show (144 * s + 4 * c + l) / 144 = s by omega, show (144 * s + 4 * c + l) % 144 = 4 * c + l by omega, Nat.add_assoc]
theorem BR_l {Z : ZT} {b s c l j : Nat} {x : Int} (hx : x = Z (b + 1) j) (hj : j = 4 * rmB b * s + 4 * c + l) (hc : 4 * c + l < 144) : x = BR Z b (144 * s + 4 * c + l) := by
  rw [BR_at hc, ← hj]
  exact hx
def envN (Z : ZT) (g : Nat) : NE := ⟨fun c s => Z (g + 1) (5 * c + s), Z 30, Z 21, Z 22, Z 23, Z 24, Z 25, Z 26, fun t => mN (Z 27 t), fun t => mN (Z 28 t)⟩
/-- what lies beside is a cell or the rim; a cell lies beside itself -/
def NRW (Z : ZT) (g : Nat) : Prop := ∀ c : Nat, (c : Int) < Z g 2 → Z (g + 1) (5 * c) = c ∧ ∀ s : Nat, s ≤ 4 → -1 ≤ Z (g + 1) (5 * c + s) ∧ Z (g + 1) (5 * c + s) < Z g 2
/-- the plan's numbers are in their ranges -/
def PLW (Z : ZT) : Prop := (∀ l : Nat, l < 4 → 0 ≤ Z 21 l → (0 ≤ Z 22 l ∧ 0 ≤ Z 23 l ∧ Z 22 l + Z 23 l ≤ Z 19 1) ∧ 1 ≤ Z 24 l ∧ Z 24 l ≤ 1000) ∧ (0 ≤ Z 19 1 ∧ Z 19 1 ≤ 80) ∧ ∀ t : Nat, (t : Int) < Z 19 1 → NC (Z 27 t) ∧ (Z 28 t = -1 ∨ NC (Z 28 t)) ∧ -999 ≤ Z 26 t ∧ Z 26 t ≤ 999
theorem bits_s : ∀ n : Fin 36, n.val &&& 3 = n.val % 4 ∧ n.val &&& 32 = (if 32 ≤ n.val then 32 else 0) ∧ (n.val / 4) &&& 7 = (if 32 ≤ n.val then n.val / 4 - 8 else n.val / 4) := by decide
theorem shr2_div {c : Int} (h0 : 0 ≤ c) (h1 : c < 36) : shr32 c 2 = c / 4 := by
  have : ∀ k : Fin 36, shr32 (k.val : Int) 2 = ((k.val / 4 : Nat) : Int) := by decide +kernel
  have q := this ⟨c.toNat, by omega⟩
  dsimp only at q
  rw [show ((c.toNat : Nat) : Int) = c by omega] at q
  rw [q]
  omega
theorem nc_l {c x : Int} (h : NC c) (hx : x = and32 c 3) : x = mN c % 4 ∧ 0 ≤ x ∧ x ≤ 3 := by
  have hc : 0 ≤ c ∧ c < 36 := by
    unfold NC at h
    omega
  obtain ⟨q1, -, -⟩ := bits_s ⟨c.toNat, by omega⟩
  dsimp only at q1
  have e1 : and32 c 3 = c % 4 := by
    rw [and32_nat (by omega) (by omega) (by decide) (by decide)]
    show ((c.toNat &&& 3 : Nat) : Int) = _
    rw [q1]
    omega
  unfold mN
  rw [hx, e1]
  split <;> omega
theorem nc_s {c x : Int} (h : NC c) (hx : x = and32 (shr32 c 2) 7) : (32 ≤ c ∧ x = 0 ∨ c < 20 ∧ x = mN c / 4) ∧ 0 ≤ x ∧ x ≤ 4 := by
  have hc : 0 ≤ c ∧ c < 36 := by
    unfold NC at h
    omega
  obtain ⟨-, -, q1⟩ := bits_s ⟨c.toNat, by omega⟩
  dsimp only at q1
  have e1 : and32 (c / 4) 7 = if 32 ≤ c then c / 4 - 8 else c / 4 := by
    rw [and32_nat (by omega) (by omega) (by decide) (by decide)]
    show (((c / 4).toNat &&& 7 : Nat) : Int) = _
    rw [show (c / 4).toNat = c.toNat / 4 by omega, q1]
    by_cases hq : 32 ≤ c
    · rw [if_pos (by omega), if_pos hq]
      omega
    · rw [if_neg (by omega), if_neg hq]
      omega
  unfold mN
  unfold NC at h
  rw [hx, shr2_div hc.1 hc.2, e1]
  by_cases hq : 32 ≤ c
  · rw [if_pos hq, if_pos hq]
    omega
  · rw [if_neg hq, if_neg hq]
    omega
theorem nc_n {c x : Int} (h : NC c) (hx : x = 1 ∧ and32 c 32 ≠ 0 ∨ x = 0 ∧ and32 c 32 = 0) : x = 1 ∧ 32 ≤ c ∨ x = 0 ∧ c < 20 := by
  have hc : 0 ≤ c ∧ c < 36 := by
    unfold NC at h
    omega
  obtain ⟨-, q2, -⟩ := bits_s ⟨c.toNat, by omega⟩
  dsimp only at q2
  have e2 : and32 c 32 = if 32 ≤ c then 32 else 0 := by
    rw [and32_nat (by omega) (by omega) (by decide) (by decide)]
    show ((c.toNat &&& 32 : Nat) : Int) = _
    rw [q2]
    by_cases hq : 32 ≤ c
    · rw [if_pos (by omega), if_pos hq]
      rfl
    · rw [if_neg (by omega), if_neg hq]
      rfl
  unfold NC at h
  rw [e2] at hx
  by_cases hq : 32 ≤ c
  · rw [if_pos hq] at hx
    omega
  · rw [if_neg hq] at hx
    omega
theorem mN_nc {c : Int} (h : NC c) : 0 ≤ mN c ∧ mN c ≤ 23 := by
  unfold mN
  unfold NC at h
  split <;> omega
theorem nrw_r {Z : ZT} {g : Nat} {c s x : Int} (h : NRW Z g) (hx : x = Z (g + 1) (5 * c.toNat + s.toNat)) (h0 : 0 ≤ c ∧ c < Z g 2) (hs : 0 ≤ s ∧ s ≤ 4) : -1 ≤ x ∧ x < Z g 2 := by
  rw [hx]
  exact (h c.toNat (by omega)).2 s.toNat (by omega)
theorem nm_rim {Z : ZT} {b g : Nat} {a s c l sd nr x : Int} (ha : NC a) (hg : NRW Z g) (h1 : 0 ≤ c ∧ c < Z g 2) (hL : l = mN a % 4 ∧ 0 ≤ l ∧ l ≤ 3) (hS : (32 ≤ a ∧ sd = 0 ∨ a < 20 ∧ sd = mN a / 4) ∧ 0 ≤ sd ∧ sd ≤ 4) (hB : nr = Z (g + 1) (5 * c.toNat + sd.toNat)) (hr : nr = -1) (hx : x = Z 30 l.toNat) : x = nmW (envN Z g) (BR Z b) (mN a) s.toNat c.toNat := by
  have hm := mN_nc ha
  rcases hS with ⟨⟨h32, h0⟩ | ⟨h20, h0⟩, -⟩
  · have q := (hg c.toNat (by omega)).1
    rw [h0, show 5 * c.toNat + (0 : Int).toNat = 5 * c.toNat by simp, q] at hB
    omega
  · have em : mN a = a := by
      unfold mN
      rw [if_neg (by omega)]
    unfold nmW
    rw [if_neg (by omega)]
    have en : (envN Z g).nxt c.toNat (mN a / 4).toNat = nr := by
      rw [hB, h0]
      rfl
    rw [en, if_pos (by omega), hx, hL.1]
    rfl
theorem nm_now {Z : ZT} {b g : Nat} {a s c l sd nr x : Int} (ha : NC a) (hg : NRW Z g) (h1 : 0 ≤ c ∧ c < Z g 2) (hL : l = mN a % 4 ∧ 0 ≤ l ∧ l ≤ 3) (hS : (32 ≤ a ∧ sd = 0 ∨ a < 20 ∧ sd = mN a / 4) ∧ 0 ≤ sd ∧ sd ≤ 4) (hB : nr = Z (g + 1) (5 * c.toNat + sd.toNat)) (h32 : 32 ≤ a) (hx : x = BR Z b (144 * s.toNat + 4 * nr.toNat + l.toNat)) : x = nmW (envN Z g) (BR Z b) (mN a) s.toNat c.toNat := by
  have h0 : sd = 0 := by omega
  have q := (hg c.toNat (by omega)).1
  rw [h0, show 5 * c.toNat + (0 : Int).toNat = 5 * c.toNat by simp, q] at hB
  have em : mN a = a - 12 := by
    unfold mN
    rw [if_pos h32]
  unfold nmW
  rw [if_pos (by omega), hx, hL.1, show nr.toNat = c.toNat by omega]
theorem nm_not {Z : ZT} {b g : Nat} {a s s' c l sd nr x : Int} (ha : NC a) (h1 : 0 ≤ c ∧ c < Z g 2) (hL : l = mN a % 4 ∧ 0 ≤ l ∧ l ≤ 3) (hS : (32 ≤ a ∧ sd = 0 ∨ a < 20 ∧ sd = mN a / 4) ∧ 0 ≤ sd ∧ sd ≤ 4) (hB : nr = Z (g + 1) (5 * c.toNat + sd.toNat)) (h20 : a < 20) (hr : 0 ≤ nr) (hs : s' = s - 1 ∧ 1 ≤ s) (hx : x = BR Z b (144 * s'.toNat + 4 * nr.toNat + l.toNat)) : x = nmW (envN Z g) (BR Z b) (mN a) s.toNat c.toNat := by
  have em : mN a = a := by
    unfold mN
    rw [if_neg (by omega)]
  have h0 : sd = mN a / 4 := by omega
  unfold nmW
  have en : (envN Z g).nxt c.toNat (mN a / 4).toNat = nr := by
    rw [hB, h0]
    rfl
  rw [if_neg (by omega), en, if_neg (by omega), hx, hL.1, show s'.toNat = s.toNat - 1 by omega]
/-- ints all: rows, rims -/
def NEI (e : NE) (R : Nat → Int) : Prop := (∀ k, -2147483648 ≤ R k ∧ R k ≤ 2147483647) ∧ ∀ k, -2147483648 ≤ e.rim k ∧ e.rim k ≤ 2147483647
theorem nmW_r {e : NE} {R : Nat → Int} {a : Int} {s c : Nat} (h : NEI e R) : -2147483648 ≤ nmW e R a s c ∧ nmW e R a s c ≤ 2147483647 := by
  unfold nmW
  split
  · exact h.1 _
  · split
    · exact h.2 _
    · exact h.1 _
theorem mul_ab {a b : Int} {A B : Nat} (ha : a.natAbs ≤ A) (hb : b.natAbs ≤ B) : -((A * B : Nat) : Int) ≤ a * b ∧ a * b ≤ ((A * B : Nat) : Int) := by
  have q := Nat.mul_le_mul ha hb
  rw [← Int.natAbs_mul] at q
  omega
def oV (o : Option Int) : Int := match o with
  | none => 2000000000000000
  | some y => y
theorem tm_q {e : NE} {R : Nat → Int} {t s c : Nat} {v u q : Int} (hv : v = nmW e R (e.nm t) s c) (h1 : v ≠ 2000000000) (hu : e.sc t < 0 ∧ u = 1 ∨ 0 ≤ e.sc t ∧ u = nmW e R (e.sc t) s c ∧ u ≠ 2000000000) (hq : q = w64 (v * u)) : tmV e R t s c = if 1000000000000000 < szW q then none else if 1000000000000000 < szW (w64 (e.fa t * q)) then none else some (w64 (e.fa t * q)) := by
  unfold tmV
  rw [← hv, if_neg h1]
  rcases hu with ⟨u1, u2⟩ | ⟨u1, u2, u3⟩
  · rw [if_neg (fun z => absurd z.1 (by omega)), if_pos u1, ← u2, ← hq]
  · rw [← u2, if_neg (fun z => u3 z.2), if_neg (show ¬ e.sc t < 0 by omega), ← hq]
theorem tm_v {e : NE} {R : Nat → Int} {t s c : Nat} {v : Int} (hv : v = nmW e R (e.nm t) s c) (h1 : v = 2000000000) : tmV e R t s c = none := by
  unfold tmV
  rw [← hv, if_pos h1]
theorem tm_u {e : NE} {R : Nat → Int} {t s c : Nat} {u : Int} (h0 : 0 ≤ e.sc t) (hu : u = nmW e R (e.sc t) s c) (h1 : u = 2000000000) : tmV e R t s c = none := by
  unfold tmV
  split
  · rfl
  · rw [if_pos ⟨h0, by rw [← hu]; exact h1⟩]
theorem tm_k {T : Option Int} {q f : Int} (hT : T = if 1000000000000000 < szW q then none else if 1000000000000000 < szW (w64 (f * q)) then none else some (w64 (f * q))) : (1000000000000000 < szW q → 2000000000000000 = oV T) ∧ (szW q ≤ 1000000000000000 → 1000000000000000 < szW (w64 (q * f)) → 2000000000000000 = oV T) ∧ (szW q ≤ 1000000000000000 → szW (w64 (q * f)) ≤ 1000000000000000 → w64 (q * f) = oV T) := by
  rw [Int.mul_comm q f]
  refine ⟨fun h => ?_, fun h h2 => ?_, fun h h2 => ?_⟩
  · rw [hT, if_pos h]
    rfl
  · rw [hT, if_neg (by omega), if_pos h2]
    rfl
  · rw [hT, if_neg (by omega), if_neg (by omega)]
    rfl
theorem tm_f {T : Option Int} {q f r : Int} (hT : T = if 1000000000000000 < szW q then none else if 1000000000000000 < szW (w64 (f * q)) then none else some (w64 (f * q))) (h : 1000000000000000 < szW q ∧ r = 2000000000000000 ∨ (szW q ≤ 1000000000000000 ∧ 1000000000000000 < szW (w64 (q * f)) ∧ r = 2000000000000000 ∨ szW q ≤ 1000000000000000 ∧ szW (w64 (q * f)) ≤ 1000000000000000 ∧ r = w64 (q * f))) : r = oV T := by
  have k := tm_k hT
  rcases h with ⟨h1, h2⟩ | ⟨h1, h2, h3⟩ | ⟨h1, h2, h3⟩
  · rw [h2]
    exact k.1 h1
  · rw [h3]
    exact k.2.1 h1 h2
  · rw [h3]
    exact k.2.2 h1 h2
theorem szW_b {x : Int} (h : szW x ≤ 1000000000000000) (h2 : -9223372036854775807 ≤ x) (h3 : x ≤ 9223372036854775807) : -1000000000000000 ≤ x ∧ x ≤ 1000000000000000 := by
  unfold szW at h
  split at h
  · rw [w64_id (by omega) (by omega)] at h
    omega
  · omega
theorem tmV_b {e : NE} {R : Nat → Int} {t s c : Nat} {y : Int} (h : NEI e R) (hf : -999 ≤ e.fa t ∧ e.fa t ≤ 999) (hy : tmV e R t s c = some y) : -1000000000000000 ≤ y ∧ y ≤ 1000000000000000 := by
  have a1 := nmW_r (a := e.nm t) (s := s) (c := c) h
  have a2 := nmW_r (a := e.sc t) (s := s) (c := c) h
  have a3 : ∀ u : Int, u = (if e.sc t < 0 then 1 else nmW e R (e.sc t) s c) → -2147483648 ≤ u ∧ u ≤ 2147483647 := fun u hu => by
    rw [hu]
    split <;> omega
  have a4 := a3 _ rfl
  have m1 := mul_ab (a := nmW e R (e.nm t) s c) (b := if e.sc t < 0 then 1 else nmW e R (e.sc t) s c) (A := 2147483648) (B := 2147483648) (by omega) (by omega)
  have w1 : w64 (nmW e R (e.nm t) s c * (if e.sc t < 0 then 1 else nmW e R (e.sc t) s c)) = nmW e R (e.nm t) s c * (if e.sc t < 0 then 1 else nmW e R (e.sc t) s c) := w64_id (by omega) (by omega)
  unfold tmV at hy
  rw [w1] at hy
  generalize nmW e R (e.nm t) s c * (if e.sc t < 0 then 1 else nmW e R (e.sc t) s c) = q at *
  split at hy
  · cases hy
  · split at hy
    · cases hy
    · split at hy
      · cases hy
      · rename_i hq
        have b1 := szW_b (x := q) (by omega) (by omega) (by omega)
        have m2 := mul_ab (a := e.fa t) (b := q) (A := 999) (B := 1000000000000000) (by omega) (by omega)
        have w2 : w64 (e.fa t * q) = e.fa t * q := w64_id (by omega) (by omega)
        rw [w2] at hy
        split at hy
        · cases hy
        · rename_i hz
          cases hy
          exact szW_b (by omega) (by omega) (by omega)
theorem oV_n {o : Option Int} (h : oV o = 2000000000000000) (hb : ∀ y, o = some y → -1000000000000000 ≤ y ∧ y ≤ 1000000000000000) : o = none := by
  cases o with
  | none => rfl
  | some y =>
    have q := hb y rfl
    have e : oV (some y) = y := rfl
    omega
theorem oV_s {o : Option Int} {x : Int} (h : x = oV o) (hx : x ≠ 2000000000000000) : o = some x := by
  cases o with
  | none => exact absurd h hx
  | some y => rw [h]; rfl
theorem lnV_n {e : NE} {R : Nat → Int} {t s c k : Nat} (h : tmV e R (t + k) s c = none) : ∀ m : Nat, lnV e R t s c (k + 1 + m) = none
  | 0 => by
    show (match lnV e R t s c k, tmV e R (t + k) s c with
      | some a, some b => some (w64 (a + b))
      | _, _ => none) = none
    rw [h]
    cases lnV e R t s c k <;> rfl
  | m + 1 => by
    show (match lnV e R t s c (k + 1 + m), tmV e R (t + (k + 1 + m)) s c with
      | some a, some b => some (w64 (a + b))
      | _, _ => none) = none
    rw [lnV_n h m]
theorem lnV_s {e : NE} {R : Nat → Int} {t s c k : Nat} {a b : Int} (h : lnV e R t s c k = some a) (g : tmV e R (t + k) s c = some b) : lnV e R t s c (k + 1) = some (w64 (a + b)) := by
  show (match lnV e R t s c k, tmV e R (t + k) s c with
    | some a, some b => some (w64 (a + b))
    | _, _ => none) = _
  rw [h, g]
theorem mk_p {e : NE} {R : Nat → Int} {s c l : Nat} (h : e.pl l < 0) : mkV e R s c l = R (144 * (s - 1) + 4 * c + l) := by
  unfold mkV
  rw [if_pos h]
theorem mk_n {e : NE} {R : Nat → Int} {s c l k : Nat} (h : 0 ≤ e.pl l) (ht : tmV e R ((e.tf l).toNat + k) s c = none) (hk : k < (e.tm l).toNat) : mkV e R s c l = 2000000000 := by
  unfold mkV
  have q := lnV_n ht ((e.tm l).toNat - k - 1)
  rw [show k + 1 + ((e.tm l).toNat - k - 1) = (e.tm l).toNat by omega] at q
  rw [if_neg (by omega), q]
theorem mk_s {e : NE} {R : Nat → Int} {s c l : Nat} {S : Int} (h : 0 ≤ e.pl l) (hS : lnV e R (e.tf l).toNat s c (e.tm l).toNat = some S) : mkV e R s c l = dvV e l S := by
  unfold mkV
  rw [if_neg (by omega), hS]
theorem dv_v {e : NE} {l : Nat} {S : Int} (h : 1000000000000000 < S ∨ S < -1000000000000000) : dvV e l S = 2000000000 := by
  unfold dvV
  rw [if_pos h]
theorem dv_n {e : NE} {l : Nat} {S n : Int} (h : -1000000000000000 ≤ S ∧ S ≤ 1000000000000000) (hn : n = if e.nr l = 1 then (2 * S + e.dv l) / (2 * e.dv l) else S / e.dv l) : dvV e l S = if 1000000000 < n ∨ n < -1000000000 then 2000000000 else n := by
  unfold dvV
  rw [if_neg (by omega), ← hn]
theorem tm_1 {v : Int} (h : -2147483648 ≤ v ∧ v ≤ 2147483647) : v = w64 (v * 1) := by
  rw [Int.mul_one, w64_id (by omega) (by omega)]
theorem NEI_c {Z : ZT} {b g : Nat} (hw : ∀ o k : Nat, (fK o).1 ≠ 1 → okI (Z o k)) (hb : (fK (b + 1)).1 ≠ 1) : NEI (envN Z g) (BR Z b) := ⟨fun k => hw (b + 1) _ hb, fun k => hw 30 k (by decide)⟩
theorem mk_vv {Z : ZT} {b g : Nat} {s c l v x : Int} {st : Int} (hnei : NEI (envN Z g) (BR Z b)) (hx : x = oV (tmV (envN Z g) (BR Z b) v.toNat s.toNat c.toNat)) (h1 : x = 2000000000000000) (hf : -999 ≤ Z 26 v.toNat ∧ Z 26 v.toNat ≤ 999) (hp : 0 ≤ Z 21 l.toNat) (hst : st = Z 22 l.toNat) (h0 : 0 ≤ st ∧ st ≤ v) (h2 : v < st + Z 23 l.toNat) : 2000000000 = mkV (envN Z g) (BR Z b) s.toNat c.toNat l.toNat := by
  have q := oV_n (hx.symm.trans h1) (fun y hy => tmV_b hnei hf hy)
  refine (mk_n (e := envN Z g) (R := BR Z b) (s := s.toNat) (c := c.toNat) (l := l.toNat) (k := v.toNat - st.toNat) hp ?_ ?_).symm
  · show tmV _ _ ((Z 22 l.toNat).toNat + (v.toNat - st.toNat)) _ _ = none
    rw [← hst, show st.toNat + (v.toNat - st.toNat) = v.toNat by omega]
    exact q
  · show v.toNat - st.toNat < (Z 23 l.toNat).toNat
    omega
theorem ln_0 {e : NE} {R : Nat → Int} {s c : Nat} {st v : Int} (h : v = st) : lnV e R st.toNat s c (v - st).toNat = some 0 := by
  rw [h, Int.sub_self]
  rfl
theorem ln_t {e : NE} {R : Nat → Int} {s c : Nat} {st v v' a x z : Int} (h : lnV e R st.toNat s c (v - st).toNat = some a) (hx : tmV e R v.toNat s c = some x) (h0 : 0 ≤ st ∧ st ≤ v) (hv : v' = v + 1) (hz : z = w64 (a + x)) : lnV e R st.toNat s c (v' - st).toNat = some z := by
  rw [show (v' - st).toNat = (v - st).toNat + 1 by omega, hz]
  refine lnV_s h ?_
  rw [show st.toNat + (v - st).toNat = v.toNat by omega]
  exact hx
