/-! ===== numbers: what the model makes ===== -/
theorem dn_e {a b : Int} (hb : 1 ≤ b) : -((b - 1 - a) / b) = a / b := by
  have h1 := Int.emod_nonneg a (show b ≠ 0 by omega)
  have h2 := Int.emod_lt_of_pos a (show 0 < b by omega)
  have h3 := Int.mul_ediv_add_emod a b
  have e : b - 1 - a = (b - 1 - a % b) + b * (-(a / b)) := by
    rw [Int.mul_neg]
    omega
  rw [e, Int.add_mul_ediv_left _ _ (by omega), Int.ediv_eq_zero_of_lt (by omega) (by omega)]
  omega
theorem dv_r {a b A : Int} (hb : 1 ≤ b) (h : -A ≤ a ∧ a ≤ A) (hA : 0 ≤ A) : -A ≤ a / b ∧ a / b ≤ A := by
  by_cases h0 : 0 ≤ a
  · have q1 := Int.ediv_nonneg h0 (show 0 ≤ b by omega)
    have q2 := Int.ediv_le_self b h0
    omega
  · have q1 := fd_ge (a := a) (b := b) (by omega) (by omega)
    have q2 := Int.ediv_nonneg (show 0 ≤ b - 1 - a by omega) (show 0 ≤ b by omega)
    have q3 := dn_e (a := a) hb
    omega
/-- the model's plan and grid (its own width and height: w, h; its hall's: wide, high) -/
def envH (Z : ZT) : NE := ⟨fun c s => nx (Z 100 35) (Z 100 36) (Z 100 2) c s, Z 101, Z 104, Z 105, Z 106, Z 107, Z 108, Z 109, Z 110, Z 111⟩
def envW (Z : ZT) : NE := ⟨fun c s => nx (Z 100 0) (Z 100 1) (Z 100 2) c s, Z 101, Z 104, Z 105, Z 106, Z 107, Z 108, Z 109, Z 110, Z 111⟩
theorem nmM_now {e : NE} {R : Nat → Int} {a s c x : Int} {j : Nat} (h : 20 ≤ a) (hx : x = R j) (hj : j = 144 * s.toNat + 4 * c.toNat + (a % 4).toNat) : x = nmW e R a s.toNat c.toNat := by
  unfold nmW
  rw [if_pos h, ← hj]
  exact hx
theorem nmM_rim {e : NE} {R : Nat → Int} {a s c x n : Int} {j : Nat} (h : a < 20) (hn : n = e.nxt c.toNat (a / 4).toNat) (h0 : n < 0) (hx : x = e.rim j) (hj : j = (a % 4).toNat) : x = nmW e R a s.toNat c.toNat := by
  unfold nmW
  rw [if_neg (by omega), ← hn, if_pos h0, ← hj]
  exact hx
theorem nmM_not {e : NE} {R : Nat → Int} {a s c x n : Int} {j : Nat} (h : a < 20) (hn : n = e.nxt c.toNat (a / 4).toNat) (h0 : 0 ≤ n) (hx : x = R j) (hj : j = 144 * (s.toNat - 1) + 4 * n.toNat + (a % 4).toNat) : x = nmW e R a s.toNat c.toNat := by
  unfold nmW
  rw [if_neg (by omega), ← hn, if_neg (by omega), ← hj]
  exact hx
theorem nxH {Z : ZT} {c s x : Int} (h : x = nx (Z 100 35) (Z 100 36) (Z 100 2) c s.toNat) (h0 : 0 ≤ c) : x = (envH Z).nxt c.toNat s.toNat := by
  rw [h]
  show _ = nx (Z 100 35) (Z 100 36) (Z 100 2) ((c.toNat : Nat) : Int) s.toNat
  rw [Int.toNat_of_nonneg h0]
theorem nxH_0 {Z : ZT} {c a : Int} (h0 : 0 ≤ c) (ha : 0 ≤ a ∧ a < 4) : c = (envH Z).nxt c.toNat (a / 4).toNat := by
  rw [show (a / 4).toNat = 0 by omega]
  show c = ((c.toNat : Nat) : Int)
  omega
theorem sz_e {x a : Int} (h : x = a ∧ 0 ≤ a ∨ x = w64 (-a) ∧ a < 0) : x = szW a := by
  unfold szW
  rcases h with ⟨h1, h2⟩ | ⟨h1, h2⟩
  · rw [if_neg (by omega)]
    exact h1
  · rw [if_pos h2]
    exact h1
theorem tmQM {Z : ZT} {R : Nat → Int} {t s c : Nat} {v u : Int} (hv : v = nmW (envH Z) R (Z 110 t) s c) (h1 : v ≠ 2000000000) (hu : Z 111 t < 0 ∧ u = 1 ∨ 0 ≤ Z 111 t ∧ u = nmW (envH Z) R (Z 111 t) s c ∧ u ≠ 2000000000) : tmV (envH Z) R t s c = if 1000000000000000 < szW (w64 (v * u)) then none else if 1000000000000000 < szW (w64 (Z 109 t * w64 (v * u))) then none else some (w64 (Z 109 t * w64 (v * u))) := tm_q (e := envH Z) hv h1 hu rfl
theorem tmQM_1 {Z : ZT} {R : Nat → Int} {t s c : Nat} {v u z : Int} (hT : tmV (envH Z) R t s c = if 1000000000000000 < szW (w64 (v * u)) then none else if 1000000000000000 < szW (w64 (Z 109 t * w64 (v * u))) then none else some (w64 (Z 109 t * w64 (v * u)))) (hz : z = szW (w64 (v * u))) (h : 1000000000000000 < z) : tmV (envH Z) R t s c = none := by
  rw [hT, ← hz, if_pos h]
theorem tmQM_2 {Z : ZT} {R : Nat → Int} {t s c : Nat} {v u z y : Int} (hT : tmV (envH Z) R t s c = if 1000000000000000 < szW (w64 (v * u)) then none else if 1000000000000000 < szW (w64 (Z 109 t * w64 (v * u))) then none else some (w64 (Z 109 t * w64 (v * u)))) (hy : y = szW (w64 (Z 109 t * w64 (v * u)))) (h2 : 1000000000000000 < y) : tmV (envH Z) R t s c = none := by
  rw [hT, ← hy, if_pos h2]
  split <;> rfl
theorem tmQM_3 {Z : ZT} {R : Nat → Int} {t s c : Nat} {v u z y : Int} (hT : tmV (envH Z) R t s c = if 1000000000000000 < szW (w64 (v * u)) then none else if 1000000000000000 < szW (w64 (Z 109 t * w64 (v * u))) then none else some (w64 (Z 109 t * w64 (v * u)))) (hz : z = szW (w64 (v * u))) (h : z ≤ 1000000000000000) (hy : y = szW (w64 (Z 109 t * w64 (v * u)))) (h2 : y ≤ 1000000000000000) : tmV (envH Z) R t s c = some (w64 (Z 109 t * w64 (v * u))) := by
  rw [hT, ← hz, if_neg (by omega), ← hy, if_neg (by omega)]
theorem sz_d {x a : Int} (h : x = a ∧ 0 ≤ a ∨ x = w64 (-a) ∧ a < 0) (b : -9223372036854775807 ≤ a) (b2 : a ≤ 9223372036854775807) : x = a ∧ 0 ≤ a ∨ x = -a ∧ a < 0 := by
  rw [w64_id (a := -a) (by omega) (by omega)] at h
  exact h
theorem ln_rg {v y lo hi lo' hi' : Int} (h : lo ≤ v ∧ v ≤ hi) (hy : -1000000000000000 ≤ y ∧ y ≤ 1000000000000000) (e1 : lo' = lo - 1000000000000000) (e2 : hi' = hi + 1000000000000000) (b1 : -9000000000000000000 ≤ lo') (b2 : hi' ≤ 9000000000000000000) : lo' ≤ w64 (v + y) ∧ w64 (v + y) ≤ hi' := by
  rw [w64_id (a := v + y) (by omega) (by omega)]
  omega
theorem mkM_v {Z : ZT} {R : Nat → Int} {s c l v : Int} (ht : tmV (envH Z) R v.toNat s.toNat c.toNat = none) (hp : 0 ≤ Z 104 l.toNat) (h0 : 0 ≤ Z 105 l.toNat ∧ Z 105 l.toNat ≤ v) (h2 : v < Z 105 l.toNat + Z 106 l.toNat) : 2000000000 = mkV (envH Z) R s.toNat c.toNat l.toNat := by
  refine (mk_n (e := envH Z) (k := v.toNat - (Z 105 l.toNat).toNat) hp ?_ ?_).symm
  · show tmV _ _ ((Z 105 l.toNat).toNat + (v.toNat - (Z 105 l.toNat).toNat)) _ _ = none
    rw [show (Z 105 l.toNat).toNat + (v.toNat - (Z 105 l.toNat).toNat) = v.toNat by omega]
    exact ht
  · show v.toNat - (Z 105 l.toNat).toNat < (Z 106 l.toNat).toNat
    omega
theorem NEI_m {Z : ZT} {r : Nat} (hw : ∀ o k : Nat, (fK o).1 ≠ 1 → okI (Z o k)) (hb : (fK r).1 ≠ 1) : NEI (envH Z) (Z r) := ⟨fun k => hw r k hb, fun k => hw 101 k (by decide)⟩
/-- the model's plan in its ranges -/
def PLH (Z : ZT) : Prop := ∀ l : Nat, l < 4 → 0 ≤ Z 104 l → Z 105 l + Z 106 l ≤ 80 ∧ (1 ≤ Z 107 l ∧ Z 107 l ≤ 1000) ∧ ∀ t : Nat, Z 105 l ≤ t → (t : Int) < Z 105 l + Z 106 l → -999 ≤ Z 109 t ∧ Z 109 t ≤ 999
theorem PLH_o {Z Z' : ZT} (h : ∀ o, 103 ≤ o → o ≤ 111 → Z' o = Z o) (q : PLH Z) : PLH Z' := by
  unfold PLH at q ⊢
  rw [h 104 (by omega) (by omega), h 105 (by omega) (by omega), h 106 (by omega) (by omega), h 107 (by omega) (by omega), h 109 (by omega) (by omega)]
  exact q
/-- a sum that is divided -/
theorem dvM {Z : ZT} {l S n : Int} (h : -1000000000000000 ≤ S ∧ S ≤ 1000000000000000) (hn : Z 108 l.toNat = 1 ∧ n = (2 * S + Z 107 l.toNat) / (2 * Z 107 l.toNat) ∨ Z 108 l.toNat ≠ 1 ∧ n = S / Z 107 l.toNat) : dvV (envH Z) l.toNat S = if 1000000000 < n ∨ n < -1000000000 then 2000000000 else n := by
  refine dv_n h ?_
  show n = if Z 108 l.toNat = 1 then (2 * S + Z 107 l.toNat) / (2 * Z 107 l.toNat) else S / Z 107 l.toNat
  rcases hn with ⟨h1, h2⟩ | ⟨h1, h2⟩
  · rw [if_pos h1]
    exact h2
  · rw [if_neg h1]
    exact h2
def onM (set : Int) (k : Nat) : Bool := decide (and32 (shr32 set k) 1 = 1)
def slM (Z : ZT) (set : Int) (s c l : Nat) (v : Int) : Int := slF (Z 113) (Z 114) (Z 115) (Z 116) (onM set) s c l v (Z 100 19).toNat
theorem onM_y {set v : Int} (h0 : 0 ≤ v) (h : and32 (shr32 set v) 1 = 1) : onM set v.toNat = true := by
  unfold onM
  rw [show ((v.toNat : Nat) : Int) = v by omega, decide_eq_true h]
theorem onM_n {set v : Int} (h0 : 0 ≤ v) (h : and32 (shr32 set v) 1 ≠ 1) : onM set v.toNat = false := by
  unfold onM
  rw [show ((v.toNat : Nat) : Int) = v by omega, decide_eq_false h]
theorem slF_1 {S C L A : Nat → Int} {on : Nat → Bool} {s c l v x k k' : Int} (h : x = slF S C L A on s c l v k.toNat) (hx : x = 2000000000) (h0 : 0 ≤ k) (hk : k' = k + 1) : x = slF S C L A on s c l v k'.toNat := by
  rw [show k'.toNat = k.toNat + 1 by omega, slF_v (k := k.toNat) (h.symm.trans hx) 1]
  exact hx
theorem slA_s {y z : Int} (h : z = szW y) (hy : -2147483648 ≤ y ∧ y ≤ 2147483647) : (1000000000 < z → 2000000000 = slA y) ∧ (z ≤ 1000000000 → y = slA y) := by
  have e : z = if y < 0 then -y else y := by
    rw [h]
    unfold szW
    split
    · exact w64_id (by omega) (by omega)
    · rfl
  unfold slA
  refine ⟨fun g => ?_, fun g => ?_⟩
  · rw [if_pos (by split at e <;> omega)]
  · rw [if_neg (by split at e <;> omega)]
def FRM (Z : ZT) : Prop := (∀ k : Nat, k < 144 → -2000000 ≤ Z 112 k ∧ Z 112 k ≤ 2000000) ∧ ∀ l : Nat, l < 4 → -2000000 ≤ Z 101 l ∧ Z 101 l ≤ 2000000
theorem FRM_o {Z Z' : ZT} (h : Z' 112 = Z 112) (h2 : Z' 101 = Z 101) (q : FRM Z) : FRM Z' := by
  unfold FRM at q ⊢
  rw [h, h2]
  exact q
theorem flM_r {Z : ZT} {c l s n x : Int} {j : Nat} (hn : n = (envH Z).nxt c.toNat s.toNat) (h0 : n < 0) (hx : x = Z 101 j) (hj : j = l.toNat) : x = flU (envH Z) (Z 112) c.toNat l.toNat s.toNat := by
  unfold flU
  rw [← hn, if_pos h0, hx, hj]
  rfl
theorem flM_f {Z : ZT} {c l s n x : Int} {j : Nat} (hn : n = (envH Z).nxt c.toNat s.toNat) (h0 : 0 ≤ n) (hx : x = Z 112 j) (hj : j = 4 * n.toNat + l.toNat) : x = flU (envH Z) (Z 112) c.toNat l.toNat s.toNat := by
  unfold flU
  rw [← hn, if_neg (by omega), hx, hj]
theorem flM_g {Z : ZT} {c l s n : Int} (hn : n = (envH Z).nxt c.toNat s.toNat) (h0 : 0 ≤ n ∧ n ≤ 35) (hl : 0 ≤ l ∧ l ≤ 3) : Z 112 (w32 (w32 (4 * n) + l)).toNat = flU (envH Z) (Z 112) c.toNat l.toNat s.toNat := by
  rw [w32_id (a := 4 * n) (by omega) (by omega), w32_id (by omega) (by omega)]
  exact flM_f hn h0.1 rfl (by omega)
theorem flM_b {Z : ZT} {c l s : Nat} (h : FRM Z) (hn : (envH Z).nxt c s ≤ 35) (hl : l < 4) : -2000000 ≤ flU (envH Z) (Z 112) c l s ∧ flU (envH Z) (Z 112) c l s ≤ 2000000 := by
  unfold flU
  split
  · exact h.2 l hl
  · exact h.1 _ (by omega)
theorem fi_m {e : NE} {F : Nat → Int} {c l : Nat} {m s x : Int} (h : F (4 * c + l) = 2000000) (hm : m = flM e F c l 4) (hs : s = flS e F c l 4) (hx : m = 0 ∧ x = 0 ∨ 1 ≤ m ∧ x = s / m) : x = fiV e F c l := by
  unfold fiV fgV
  rw [if_pos h, ← hm, ← hs]
  rcases hx with ⟨x1, x2⟩ | ⟨x1, x2⟩
  · rw [if_pos (by omega)]
    exact x2
  · rw [if_neg (by omega)]
    exact x2
