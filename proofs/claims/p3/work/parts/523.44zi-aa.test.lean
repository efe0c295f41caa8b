/-! ===== the model's times, exactly ===== -/
theorem nxB {Z : ZT} {c s x : Int} (h : x = nx (Z 100 35) (Z 100 36) (Z 100 2) c s.toNat) (e1 : Z 100 35 = Z 100 0) (e2 : Z 100 36 = Z 100 1) (h0 : 0 ≤ c) : x = (envB Z).nxt c.toNat s.toNat := by
  rw [h, e1, e2]
  show _ = nx (Z 100 0) (Z 100 1) (Z 100 2) ((c.toNat : Nat) : Int) s.toNat
  rw [Int.toNat_of_nonneg h0]
theorem envB_o {Z Z' : ZT} (h0 : Z' 100 0 = Z 100 0) (h1 : Z' 100 1 = Z 100 1) (h2 : Z' 100 2 = Z 100 2) (h129 : Z' 129 = Z 129) (h119 : Z' 119 = Z 119) (h3 : Z' 100 3 = Z 100 3) : envB Z' = envB Z := by
  unfold envB
  rw [h0, h1, h2, h129, h119, h3]
/-- the model's begin: the greater of the free minute and the notes of the first k sides -/
def bgF (e : TE) (E : Nat → Int) (F0 : Int) (s c : Nat) (k : Nat) : Int := if 1 < s then mx2 F0 (cmF e E s c k) else F0
theorem bg_0 {e : TE} {E : Nat → Int} {x F0 : Int} {s c : Nat} {v : Int} (hx : x = F0) (h0 : 0 ≤ x) (hv : v = 1) : x = bgF e E F0 s c (v - 1).toNat := by
  subst hv hx
  unfold bgF
  split
  · exact (mx2_0 h0).symm
  · rfl
theorem bg_n {e : TE} {E : Nat → Int} {x F0 n v v' : Int} {s c : Nat} (hx : x = bgF e E F0 s c (v - 1).toNat) (hn : n = e.nxt c v.toNat) (hr : ¬(0 ≤ n ∧ n < 36)) (h0 : 1 ≤ v) (hv : v' = v + 1) : x = bgF e E F0 s c (v' - 1).toNat := by
  rw [hx]
  unfold bgF
  rw [← cmF_n rfl hn hr h0 hv]
theorem bg_s {e : TE} {E : Nat → Int} {x F0 n v v' xe y1 w z : Int} {s c i : Nat} (hx : x = bgF e E F0 s c (v - 1).toNat) (hs : 1 < s) (hn : n = e.nxt c v.toNat) (hr : 0 ≤ n ∧ n < 36) (he : xe = E i) (hi : i = 36 * (s - 1) + n.toNat) (h1 : y1 = e.ow n.toNat) (hw : y1 = e.ow c ∧ w = 0 ∨ y1 ≠ e.ow c ∧ w = e.wk) (hz : w32 (xe + w) ≤ x ∧ z = x ∨ x < w32 (xe + w) ∧ z = w32 (xe + w)) (h0 : 1 ≤ v) (hv : v' = v + 1) : z = bgF e E F0 s c (v' - 1).toNat := by
  have q := cmF_s (e := e) (E := E) (s := s) (c := c) (v := v) (v' := v') (x := cmF e E s c (v - 1).toNat) (n := n) (y := w32 (xe + w)) (z := mx2 (cmF e E s c (v - 1).toNat) (w32 (xe + w))) rfl hn hr (by
    rw [he, hi, ← h1]
    congr 2
    split <;> omega) (by
    unfold mx2
    split <;> omega) h0 hv
  unfold bgF at hx ⊢
  rw [if_pos hs] at hx ⊢
  rw [← q, ← mx2_a, ← hx]
  unfold mx2
  split <;> omega
theorem en_m {e : TE} {Z1 : ZT} {N d : Nat} {v p x pa k : Int} {s : Nat} {q : (Nat → Int) × (Nat → Int)} (hx : x = bgF e (Z1 128) (Z1 130 p.toNat) s v.toNat (k - 1).toNat) (hk : k = 5 ∨ s ≤ 1) (hs : s = d + 1) (hF : FG (Z1 130) q.2) (hA : AG (Z1 128) q.1 N d v.toNat) (hp : p = e.ow v.toNat) (hr : 0 ≤ p ∧ p ≤ 5) (hpa : pa = e.pc p.toNat) (hn : ∀ j : Nat, 1 ≤ j → j ≤ 4 → 0 ≤ e.nxt v.toNat j → e.nxt v.toNat j < N) : w32 (x + pa) = enF e q.1 q.2 (d + 1) v.toNat := by
  subst hs
  unfold enF
  rw [← hp, hpa, ← hF p.toNat (by omega), hx]
  congr 2
  unfold bgF
  by_cases h1 : 1 < d + 1
  · rw [if_pos h1, if_pos h1]
    have e5 : k = 5 := by omega
    subst e5
    have g := cmF_eq (e := e) (E := Z1 128) (E' := q.1) (s := d + 1) (c := v.toNat) (N := N) hn (fun j hj => by
      rw [show d + 1 - 1 = d by omega]
      exact hA d j (Or.inl ⟨Nat.le_refl d, hj⟩)) 4 (Nat.le_refl 4)
    show mx2 _ (cmF e (Z1 128) (d + 1) v.toNat 4) = _
    rw [g]
  · rw [if_neg h1, if_neg h1]
theorem AG_0 {Z : ZT} {e : TE} {N d : Nat} (h : ∀ c : Nat, c < 36 → Z 128 c = 0) (hN : N ≤ 36) (hd : d = 0) : AG (Z 128) (tsS e N d).1 N d 0 := by
  subst hd
  intro s k hk
  have es : s = 0 := by omega
  subst es
  show Z 128 (36 * 0 + k) = 0
  rw [show 36 * 0 + k = k by omega]
  exact h k (by omega)
theorem FG_0 {Z : ZT} {e : TE} {N d : Nat} {v : Int} (h : FL Z 130 0 v) (hv : 6 ≤ v) (hd : d = 0) : FG (Z 130) (tsS e N d).2 := by
  subst hd
  exact fun p hp => h p (by omega)
theorem nxB_lt {Z : ZT} {v : Int} (hI : CI Z) (h0 : 0 ≤ v) (h1 : v < Z 100 0 * Z 100 1) : ∀ j : Nat, 1 ≤ j → j ≤ 4 → 0 ≤ (envB Z).nxt v.toNat j → (envB Z).nxt v.toNat j < (((Z 100 0 * Z 100 1).toNat : Nat) : Int) := fun j _ j4 _ => by
  have w := hI 100 0 2 6 rfl
  have w' := hI 100 1 2 6 rfl
  rw [Int.toNat_of_nonneg (by omega)]
  exact nx_lt (by omega) (by omega) (by omega) j4
theorem own_e {Z Z1 : ZT} (cy : CY Z1 Z 129 120 36) (hI : CI Z) (h0 : Z1 100 0 = Z 100 0) (h1 : Z1 100 1 = Z 100 1) (h2 : Z1 100 2 = Z 100 2) (h119 : Z1 119 = Z 119) (h3 : Z1 100 3 = Z 100 3) : TQ (envB Z1) (envM Z) := by
  refine ⟨?_, fun k hk => ?_, fun k _ => ?_, h3⟩
  · show (fun (c s : Nat) => nx (Z1 100 0) (Z1 100 1) (Z1 100 2) c s) = _
    rw [h0, h1, h2]
    rfl
  · have q := cy k (by omega)
    have r := hI 120 k 0 5 rfl
    show Z1 129 k = Z 120 k ∧ 0 ≤ Z1 129 k ∧ Z1 129 k ≤ 5
    omega
  · show Z1 119 k = Z 119 k
    rw [h119]
theorem told_cells {Z : ZT} (hI : CI Z) : 4 ≤ Z 100 0 * Z 100 1 ∧ Z 100 0 * Z 100 1 ≤ 36 := cells_r hI
theorem L36c {Z1 Z3 : ZT} {o idx : Nat} {a : Int} (h : ∀ c : Nat, c < 36 → Z1 o c = 0) (f : Z3 o = upZ Z1 o idx a o) (hi : 36 ≤ idx) : ∀ c : Nat, c < 36 → Z3 o c = 0 := fun c hc => by
  rw [f, up_nk (by omega)]
  exact h c hc
theorem own_ag {Z Z1 Z' : ZT} {v : Int} (h : AG (Z' 128) (tsS (envB Z1) (Z1 100 0 * Z1 100 1).toNat (12 : Int).toNat).1 (Z1 100 0 * Z1 100 1).toNat (12 : Int).toNat 0) (cy : CY Z1 Z 129 120 v) (hv : 36 ≤ v) (hI : CI Z) (h0 : Z1 100 0 = Z 100 0) (h1 : Z1 100 1 = Z 100 1) (h2 : Z1 100 2 = Z 100 2) (h119 : Z1 119 = Z 119) (h3 : Z1 100 3 = Z 100 3) : AG (Z' 128) (tsS (envM Z) (Z 100 0 * Z 100 1).toNat 12).1 (Z 100 0 * Z 100 1).toNat 12 0 := by
  have q := own_e (CY_m cy (v' := 36) hv) hI h0 h1 h2 h119 h3
  have c := told_cells hI
  rw [tsS_q q (by rw [h0, h1]; omega), h0, h1] at h
  exact h
theorem whM_l {Z Z' : ZT} {a1 a2 x : Int} (h : AG (Z' 128) (tsS (envM Z) (Z 100 0 * Z 100 1).toNat 12).1 (Z 100 0 * Z 100 1).toNat 12 0) (h0 : Z' 100 0 = Z 100 0) (h1 : Z' 100 1 = Z 100 1) (ha : 0 ≤ a1 ∧ a1 ≤ 12) (hx : x = lsF (fun k => Z' 128 (36 * a1.toNat + k)) (Z' 100 0 * Z' 100 1).toNat) (h2 : a2 < 0) : x = whF (envM Z) (Z 100 0 * Z 100 1).toNat a1 a2 := by
  unfold whF
  rw [if_pos h2, hx, h0, h1]
  exact lsF_eq _ (fun k hk => h a1.toNat k (Or.inl ⟨by omega, hk⟩))
theorem whM_c {Z Z' : ZT} {a1 a2 x : Int} {i : Nat} (h : AG (Z' 128) (tsS (envM Z) (Z 100 0 * Z 100 1).toNat 12).1 (Z 100 0 * Z 100 1).toNat 12 0) (ha : 0 ≤ a1 ∧ a1 ≤ 12) (hx : x = Z' 128 i) (hi : i = 36 * a1.toNat + a2.toNat) (h2 : 0 ≤ a2) (h3 : a2 < Z 100 0 * Z 100 1) : x = whF (envM Z) (Z 100 0 * Z 100 1).toNat a1 a2 := by
  unfold whF
  rw [if_neg (by omega), hx, hi]
  exact h a1.toNat a2.toNat (Or.inl ⟨by omega, by omega⟩)
theorem sl_n {f : Nat → Int} {x y l : Int} {i j : Nat} (hx : x = f i) (hi : i = j) (hy : y = l) (hn : ¬ x = y) : f j ≠ l := fun h => by
  subst hi hy
  exact hn (hx.trans h)
theorem sl_y {Z : ZT} {f g : Nat → Int} {N : Nat} {v x y a : Int} {i : Nat} (hx : x = Z 128 i) (hi : i = 36 * a.toNat + v.toNat) (hy : y = lsF (fun k => Z 128 (36 * a.toNat + k)) N) (he : x = y) (hm : MX Z N a y) (hall : ∀ k : Nat, (k : Int) < v → Z 128 (36 * a.toNat + k) ≠ lsF (fun k => Z 128 (36 * a.toNat + k)) N) (h0 : 0 ≤ v) (ha : 0 ≤ a) : SLW (fun k => Z 128 (36 * a.toNat + k)) N v := by
  have hlt : v < N := by
    obtain ⟨⟨c, c0, c1, c2⟩, -⟩ := hm
    by_cases hq : v < N
    · exact hq
    · exfalso
      refine hall c.toNat (by omega) ?_
      rw [← hy, ← c2]
      congr 1
      omega
  refine Or.inl ⟨h0, hlt, ?_, hall⟩
  show Z 128 (36 * a.toNat + v.toNat) = _
  rw [← hy, ← he, hx, hi]
theorem mx_n {Z : ZT} {N : Int} {a x : Int} (h : MX Z N a x) (hN : 0 ≤ N) : MX Z ((N.toNat : Nat) : Int) a x := by
  rw [Int.toNat_of_nonneg hN]
  exact h
theorem kn_s2 {f : Nat → Int} {c i : Nat} {v v' m y : Int} (h : ∀ s : Nat, 1 ≤ s → (s : Int) ≤ v → f (36 * s + c) ≤ m) (hy : y = f i) (hi : i = 36 * (v.toNat + 1) + c) (hm : y ≤ m) (h0 : 0 ≤ v ∧ v ≤ 12) (hv : v' = v + 1) : ∀ s : Nat, 1 ≤ s → (s : Int) ≤ v' → f (36 * s + c) ≤ m := by
  intro s s1 s2
  by_cases hq : (s : Int) = v + 1
  · subst hi
    rw [show v.toNat + 1 = s by omega] at hy
    rw [← hy]
    exact hm
  · exact h s s1 (by omega)
theorem kn_e {f : Nat → Int} {c i : Nat} {v m y : Int} (hy : y = f i) (hi : i = 36 * (v.toNat + 1) + c) (hm : m < y) : m < f (36 * (v.toNat + 1) + c) := by
  subst hi
  rw [← hy]
  exact hm
