/-! ===== the class's times, exactly ===== -/
theorem nr_at {Z : ZT} {c s x : Int} (h : NRC Z) (hx : x = Z 3 (5 * c.toNat + s.toNat)) (h0 : 0 ≤ c) (h1 : c < Z 2 2) (h2 : 0 ≤ s ∧ s ≤ 4) : x = (envC Z).nxt c.toNat s.toNat := by
  rw [hx]
  exact h.1 c.toNat (by omega) s.toNat (by omega)
theorem OWR_ld {Z : ZT} {v x : Int} (h : OWR Z) (hx : x = Z 89 v.toNat) (h0 : 0 ≤ v) (h1 : v ≤ 35) : 0 ≤ x ∧ x ≤ 5 := by
  rw [hx]
  exact h v.toNat (by omega)
theorem cmF_c {Z : ZT} {a3 a4 n v v' x xe y1 y2 w z : Int} (hx : x = cmF (envC Z) (Z 90) a3.toNat a4.toNat (v - 1).toNat) (hn : n = (envC Z).nxt a4.toNat v.toNat) (hr : 0 ≤ n ∧ n < 36) (he : xe = Z 90 (36 * (w32 (a3 - 1)).toNat + n.toNat)) (hz : z = x ∧ w32 (xe + w) ≤ x ∨ z = w32 (xe + w) ∧ x < w32 (xe + w)) (h1 : y1 = Z 89 n.toNat) (h2 : y2 = Z 89 a4.toNat) (hw : y1 = y2 ∧ w = 0 ∨ y1 ≠ y2 ∧ w = Z 86 1) (h3 : 1 ≤ a3 ∧ a3 ≤ 12) (h0 : 1 ≤ v) (hv : v' = v + 1) : z = cmF (envC Z) (Z 90) a3.toNat a4.toNat (v' - 1).toNat := by
  refine cmF_s (y := w32 (xe + w)) hx hn hr ?_ (by omega) h0 hv
  rw [he, show (w32 (a3 - 1)).toNat = a3.toNat - 1 by rw [w32_id (by omega) (by omega)]; omega]
  show _ = w32 (_ + (if Z 89 n.toNat = Z 89 a4.toNat then 0 else Z 86 1))
  rw [← h1, ← h2]
  congr 2
  split <;> omega
theorem NRC_o {Z Z' : ZT} (h0 : Z' 2 0 = Z 2 0) (h1 : Z' 2 1 = Z 2 1) (h2 : Z' 2 2 = Z 2 2) (h18 : Z' 18 3 = Z 18 3) (h3 : Z' 3 = Z 3) (h : NRC Z) : NRC Z' := by
  unfold NRC NR at h ⊢
  rw [h0, h1, h2, h18, h3]
  exact h
theorem OWR_o {Z Z' : ZT} (h : Z' 89 = Z 89) (g : OWR Z) : OWR Z' := by
  unfold OWR at g ⊢
  rw [h]
  exact g
theorem AG_w {Z1 Z3 : ZT} {o idx N d : Nat} {v v' a : Int} {e : TE} {q : (Nat → Int) × (Nat → Int)} (h : AG (Z1 o) (tsC e q (d + 1) v.toNat).1 N d v.toNat) (f : Z3 o = upZ Z1 o idx a o) (hi : idx = 36 * (d + 1) + v.toNat) (ha : a = enF e (tsC e q (d + 1) v.toNat).1 (tsC e q (d + 1) v.toNat).2 (d + 1) v.toNat) (hN : N ≤ 36) (h0 : 0 ≤ v ∧ v < 36) (hv : v' = v + 1) : AG (Z3 o) (tsC e q (d + 1) v'.toNat).1 N d v'.toNat := by
  rw [show v'.toNat = v.toNat + 1 by omega]
  refine AG_s (a := a) h (fun k => ?_) ha hN (by omega)
  rw [f, ← hi]
  by_cases hq : k = idx
  · rw [if_pos hq, hq, up_eq]
  · rw [if_neg hq, up_nk hq]
theorem FG_w {Z1 Z2 Z3 : ZT} {o p d : Nat} {v v' a : Int} {e : TE} {q : (Nat → Int) × (Nat → Int)} (h : FG (Z1 o) (tsC e q (d + 1) v.toNat).2) (f : Z3 o = upZ Z2 o p a o) (g : Z2 o = Z1 o) (hp : p = (e.ow v.toNat).toNat) (ha : a = enF e (tsC e q (d + 1) v.toNat).1 (tsC e q (d + 1) v.toNat).2 (d + 1) v.toNat) (h0 : 0 ≤ v) (hv : v' = v + 1) : FG (Z3 o) (tsC e q (d + 1) v'.toNat).2 := by
  rw [show v'.toNat = v.toNat + 1 by omega]
  refine FG_s (a := a) h (fun k => ?_) hp ha
  rw [f]
  by_cases hq : k = p
  · rw [if_pos hq, hq, up_eq]
  · rw [if_neg hq, up_nk hq, g]
theorem L36 {Z Z1 Z3 : ZT} {o idx : Nat} {a : Int} (h : ∀ c : Nat, c < 36 → Z1 o c = Z o c) (f : Z3 o = upZ Z1 o idx a o) (hi : 36 ≤ idx) : ∀ c : Nat, c < 36 → Z3 o c = Z o c := fun c hc => by
  rw [f, up_nk (by omega)]
  exact h c hc
theorem AG_o {Z Z' : ZT} {o : Nat} {E : Nat → Int} {N d c : Nat} (e : Z' o = Z o) (h : AG (Z o) E N d c) : AG (Z' o) E N d c := by
  rw [e]
  exact h
theorem FG_o {Z Z' : ZT} {o : Nat} {F : Nat → Int} (e : Z' o = Z o) (h : FG (Z o) F) : FG (Z' o) F := by
  rw [e]
  exact h
theorem Z36_o {Z Z' : ZT} {o : Nat} (e : Z' o = Z o) (h : ∀ c : Nat, c < 36 → Z o c = 0) : ∀ c : Nat, c < 36 → Z' o c = 0 := by
  rw [e]
  exact h
theorem cm_w {Z : ZT} {E : Nat → Int} {N d : Nat} {a3 v x : Int} (hx : x = cmF (envC Z) (Z 90) a3.toNat v.toNat 4) (h : AG (Z 90) E N d v.toNat) (hd : a3.toNat = d + 1) (hN : (N : Int) = Z 2 0 * Z 2 1) (hI : CI Z) (h0 : 0 ≤ v) (h1 : v < N) : x = cmF (envC Z) E (d + 1) v.toNat 4 := by
  rw [hx, hd]
  have w := hI 2 0 2 6 rfl
  have w' := hI 2 1 2 6 rfl
  refine cmF_eq (N := N) (fun k k1 k4 hk => ?_) (fun k hk => ?_) 4 (Nat.le_refl 4)
  · rw [hN]
    exact nx_lt (by omega) (by omega) (by omega) k4
  · rw [show d + 1 - 1 = d by omega]
    exact h d k (Or.inl ⟨Nat.le_refl d, hk⟩)
theorem en_1 {Z : ZT} {d : Nat} {v p f pa : Int} {q : (Nat → Int) × (Nat → Int)} (hF : FG (Z 91) q.2) (hp : p = Z 89 v.toNat) (hr : 0 ≤ p ∧ p ≤ 5) (hf : f = Z 91 p.toNat) (hpa : pa = Z 87 p.toNat) (hd : d = 0) : w32 (f + pa) = enF (envC Z) q.1 q.2 (d + 1) v.toNat := by
  unfold enF
  have e : (envC Z).ow v.toNat = p := hp.symm
  rw [e, if_neg (by omega), ← hF p.toNat (by omega), ← hf]
  show _ = w32 (f + Z 87 p.toNat)
  rw [hpa]
theorem en_2 {Z : ZT} {d : Nat} {v p f pa cm b : Int} {q : (Nat → Int) × (Nat → Int)} (hF : FG (Z 91) q.2) (hp : p = Z 89 v.toNat) (hr : 0 ≤ p ∧ p ≤ 5) (hf : f = Z 91 p.toNat) (hpa : pa = Z 87 p.toNat) (hd : 1 ≤ d) (hc : cm = cmF (envC Z) q.1 (d + 1) v.toNat 4) (hb : b = f ∧ cm ≤ f ∨ b = cm ∧ f < cm) : w32 (b + pa) = enF (envC Z) q.1 q.2 (d + 1) v.toNat := by
  unfold enF
  have e : (envC Z).ow v.toNat = p := hp.symm
  have eb : b = mx2 f cm := by
    unfold mx2
    split <;> omega
  rw [e, if_pos (by omega), ← hF p.toNat (by omega), ← hf, ← hc, ← eb]
  show _ = w32 (b + Z 87 p.toNat)
  rw [hpa]
/-- the ends that the class has kept, as the spec has them behind all steps -/
theorem TM_at {Z : ZT} {s k : Nat} (h : TM Z) (hs : (s : Int) ≤ Z 88 4) (h12 : Z 88 4 ≤ 12) (hk : k < (Z 2 2).toNat) (h36 : Z 2 2 ≤ 36) : Z 90 (36 * s + k) = (tsS (envC Z) (Z 2 2).toNat 12).1 (36 * s + k) := by
  rw [h.2.1 s k (Or.inl ⟨by omega, hk⟩), tsS_12 (d := (Z 88 4).toNat) _ _ (by omega) (by omega)]
theorem wh_l {Z Z' : ZT} {a1 a2 x : Int} (h : TM Z') (he : envC Z' = envC Z) (h2 : Z' 2 2 = Z 2 2) (hs : a1 ≤ Z' 88 4) (hI : CI Z') (h0 : 0 ≤ a1) (hx : x = lsF (fun k => Z' 90 (36 * a1.toNat + k)) (Z' 2 2).toNat) (ha : a2 < 0) : x = whF (envC Z) (Z 2 2).toNat a1 a2 := by
  have r := hI 2 2 4 36 rfl
  have r2 := hI 88 4 0 12 rfl
  unfold whF
  rw [if_pos ha, hx, ← he, ← h2]
  exact lsF_eq _ (fun k hk => TM_at h (by omega) r2.2 hk r.2)
theorem wh_c {Z Z' : ZT} {a1 a2 x : Int} (h : TM Z') (he : envC Z' = envC Z) (h2 : Z' 2 2 = Z 2 2) (hs : a1 ≤ Z' 88 4) (hI : CI Z') (h0 : 0 ≤ a1) (hx : x = Z' 90 (36 * a1.toNat + a2.toNat)) (ha : 0 ≤ a2) (h3 : a2 < Z 2 2) : x = whF (envC Z) (Z 2 2).toNat a1 a2 := by
  have r := hI 2 2 4 36 rfl
  have r2 := hI 88 4 0 12 rfl
  unfold whF
  rw [if_neg (by omega), hx, ← he, ← h2]
  exact TM_at h (by omega) r2.2 (by omega) r.2
/-- the first of the slowest; how many steps are known -/
def SLW (f : Nat → Int) (N : Nat) (x : Int) : Prop := 0 ≤ x ∧ x < N ∧ f x.toNat = lsF f N ∧ (∀ k : Nat, (k : Int) < x → f k ≠ lsF f N) ∨ x = 0 ∧ ∀ k : Nat, k < N → f k ≠ lsF f N
def KNW (f : Nat → Int) (m x : Int) : Prop := (0 ≤ x ∧ x ≤ 12) ∧ (∀ s : Nat, 1 ≤ s → (s : Int) ≤ x → f s ≤ m) ∧ (x = 12 ∨ m < f (x.toNat + 1))
theorem SLW_eq {f g : Nat → Int} {N : Nat} {x : Int} (e : ∀ k : Nat, k < N → f k = g k) (h : SLW f N x) : SLW g N x := by
  have el := lsF_eq N e
  rcases h with ⟨h0, h1, h2, h3⟩ | ⟨h0, h3⟩
  · refine Or.inl ⟨h0, h1, ?_, fun k hk => ?_⟩
    · rw [← el, ← e x.toNat (by omega)]
      exact h2
    · rw [← el, ← e k (by omega)]
      exact h3 k hk
  · refine Or.inr ⟨h0, fun k hk => ?_⟩
    rw [← el, ← e k hk]
    exact h3 k hk
theorem KNW_eq {f g : Nat → Int} {m x : Int} (e : ∀ s : Nat, s ≤ 12 → f s = g s) (h : KNW f m x) : KNW g m x := by
  obtain ⟨h0, h1, h2⟩ := h
  refine ⟨h0, fun s s1 s2 => ?_, ?_⟩
  · rw [← e s (by omega)]
    exact h1 s s1 s2
  · rcases h2 with h2 | h2
    · exact Or.inl h2
    · by_cases hq : x = 12
      · exact Or.inl hq
      · rw [← e _ (by omega)]
        exact Or.inr h2
theorem KNW_u {f : Nat → Int} {m x y : Int} (h : KNW f m x) (g : KNW f m y) : x = y := by
  obtain ⟨h0, h1, h2⟩ := h
  obtain ⟨g0, g1, g2⟩ := g
  by_cases a : x < y
  · exfalso
    have q := g1 (x.toNat + 1) (by omega) (by omega)
    omega
  · by_cases b : y < x
    · exfalso
      have q := h1 (y.toNat + 1) (by omega) (by omega)
      omega
    · omega
theorem SLW_u {f : Nat → Int} {N : Nat} {x y : Int} (h : SLW f N x) (g : SLW f N y) : x = y := by
  rcases h with ⟨h0, h1, h2, h3⟩ | ⟨h0, h3⟩ <;> rcases g with ⟨g0, g1, g2, g3⟩ | ⟨g0, g3⟩
  · by_cases a : x < y
    · exact absurd h2 (g3 x.toNat (by omega))
    · by_cases b : y < x
      · exact absurd g2 (h3 y.toNat (by omega))
      · omega
  · exact absurd h2 (g3 x.toNat (by omega))
  · exact absurd g2 (h3 y.toNat (by omega))
  · omega
theorem kn_s {f : Nat → Int} {c : Nat} {v v' w m y : Int} (h : ∀ s : Nat, 1 ≤ s → (s : Int) ≤ v → f (36 * s + c) ≤ m) (hy : y = f (36 * (w32 (v + 1)).toNat + c)) (hm : y ≤ m) (h0 : 0 ≤ v ∧ v ≤ 12) (hv : v' = v + 1) : ∀ s : Nat, 1 ≤ s → (s : Int) ≤ v' → f (36 * s + c) ≤ m := by
  intro s s1 s2
  by_cases hq : (s : Int) = v + 1
  · rw [w32_id (by omega) (by omega), show (v + 1).toNat = s by omega] at hy
    rw [← hy]
    exact hm
  · exact h s s1 (by omega)
