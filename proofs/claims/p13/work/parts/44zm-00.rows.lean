/-! ===== numbers: the class's rows ===== -/
theorem BR_up {Z Z' : ZT} {b s c l s0 c0 l0 : Nat} {a : Int} (h : Z' (b + 1) = upZ Z (b + 1) (4 * rmB b * s0 + 4 * c0 + l0) a (b + 1)) (hc : c < rmB b) (hl : l < 4) (hc0 : c0 < rmB b) (hl0 : l0 < 4) : BR Z' b (144 * s + 4 * c + l) = if s = s0 ∧ c = c0 ∧ l = l0 then a else BR Z b (144 * s + 4 * c + l) := by
  have hr : rmB b = 9 ∨ rmB b = 36 := by
    unfold rmB
    split
    · exact Or.inl rfl
    · exact Or.inr rfl
  have c36 : c < 36 ∧ c0 < 36 := by omega
  rw [BR_at (by omega), BR_at (by omega), h]
  by_cases hq : s = s0 ∧ c = c0 ∧ l = l0
  · obtain ⟨rfl, rfl, rfl⟩ := hq
    rw [up_eq, if_pos ⟨rfl, rfl, rfl⟩]
  · rw [if_neg hq, up_nk ?_]
    intro e
    apply hq
    rcases hr with hr | hr <;> rw [hr] at e hc hc0 <;> omega
/-- the first numbers told so far: cells below c, of c itself letters below l0 -/
def FTK (R : Nat → Int) (e : NE) (F : Nat → Int) (c l0 : Int) : Prop := (∀ k l : Nat, (k : Int) < c → l < 4 → R (4 * k + l) = fiV e F k l) ∧ ∀ l : Nat, (l : Int) < l0 → R (4 * c.toNat + l) = fiV e F c.toNat l
theorem FTK_0 {R : Nat → Int} {e : NE} {F : Nat → Int} : FTK R e F 0 0 := ⟨fun k l hk => by omega, fun l hl => by omega⟩
theorem FTK_c {R : Nat → Int} {e : NE} {F : Nat → Int} {c c' l0 : Int} (h : FTK R e F c l0) (h4 : 4 ≤ l0) (h0 : 0 ≤ c) (hc : c' = c + 1) : FTK R e F c' 0 := by
  refine ⟨fun k l hk hl => ?_, fun l hl => by omega⟩
  by_cases hq : (k : Int) < c
  · exact h.1 k l hq hl
  · rw [show k = c.toNat by omega]
    exact h.2 l (by omega)
theorem FTK_w {Z Z' : ZT} {b : Nat} {e : NE} {F : Nat → Int} {c l l' x : Int} (h : FTK (BR Z b) e F c l) (hu : Z' (b + 1) = upZ Z (b + 1) (4 * rmB b * (0 : Int).toNat + 4 * c.toNat + l.toNat) x (b + 1)) (hx : x = fiV e F c.toNat l.toNat) (h0 : 0 ≤ c ∧ c < rmB b) (hl : 0 ≤ l ∧ l ≤ 3) (hl' : l' = l + 1) : FTK (BR Z' b) e F c l' := by
  have up := fun (k j : Nat) (hk : k < rmB b) (hj : j < 4) => BR_up (s := 0) (c := k) (l := j) hu hk hj (by omega) (by omega)
  simp only [Nat.mul_zero, Nat.zero_add, Int.toNat_zero] at up
  refine ⟨fun k j hk hj => ?_, fun j hj => ?_⟩
  · rw [up k j (by omega) hj, if_neg (by omega)]
    exact h.1 k j hk hj
  · rw [up c.toNat j (by omega) (by omega)]
    by_cases hq : j = l.toNat
    · rw [if_pos ⟨trivial, rfl, hq⟩, hq]
      exact hx
    · rw [if_neg (fun z => hq z.2.2)]
      exact h.2 j (by omega)
theorem FTK_o {Z Z' : ZT} {b : Nat} {e : NE} {F : Nat → Int} {c l : Int} (q : Z' (b + 1) = Z (b + 1)) (h : FTK (BR Z b) e F c l) : FTK (BR Z' b) e F c l := by
  have e1 : BR Z' b = BR Z b := by
    funext k
    unfold BR
    rw [q]
  rw [e1]
  exact h
theorem fi_g {e : NE} {F : Nat → Int} {c l : Nat} {x : Int} (h : F (4 * c + l) = 2000000) (hx : x = fgV e F c l) : x = fiV e F c l := by
  unfold fiV
  rw [if_pos h]
  exact hx
theorem fi_f {e : NE} {F : Nat → Int} {c l : Nat} {x : Int} (h : F (4 * c + l) ≠ 2000000) (hx : x = F (4 * c + l)) : x = fiV e F c l := by
  unfold fiV
  rw [if_neg h]
  exact hx
theorem envN_o {Z Z' : ZT} {g : Nat} (h : ∀ o, 19 ≤ o → o ≤ 30 → Z' o = Z o) (h2 : Z' (g + 1) = Z (g + 1)) : envN Z' g = envN Z g := by
  unfold envN
  rw [h2, h 21 (by omega) (by omega), h 22 (by omega) (by omega), h 23 (by omega) (by omega), h 24 (by omega) (by omega), h 25 (by omega) (by omega), h 26 (by omega) (by omega), h 27 (by omega) (by omega), h 28 (by omega) (by omega), h 30 (by omega) (by omega)]
theorem NRW_o {Z Z' : ZT} {g : Nat} (h : Z' (g + 1) = Z (g + 1)) (h2 : Z' g 2 = Z g 2) (q : NRW Z g) : NRW Z' g := by
  unfold NRW at q ⊢
  rw [h, h2]
  exact q
theorem FRR_o {Z Z' : ZT} (h : Z' 29 = Z 29) (h2 : Z' 30 = Z 30) (q : FRR Z) : FRR Z' := by
  unfold FRR at q ⊢
  rw [h, h2]
  exact q
theorem PLW_o {Z Z' : ZT} (h : ∀ o, 19 ≤ o → o ≤ 30 → Z' o = Z o) (q : PLW Z) : PLW Z' := by
  unfold PLW at q ⊢
  rw [h 19 (by omega) (by omega), h 21 (by omega) (by omega), h 22 (by omega) (by omega), h 23 (by omega) (by omega), h 24 (by omega) (by omega), h 26 (by omega) (by omega), h 27 (by omega) (by omega), h 28 (by omega) (by omega)]
  exact q
/-- of step d + 1 and cell c those letters are made that P holds of -/
def SOLP (e : NE) (sl : Nat → Nat → Nat → Int → Int) (N : Nat) (F R : Nat → Int) (d c : Nat) (P : Nat → Prop) : Prop := SOL e sl N F R d ∧ (∀ k l : Nat, k < c → l < 4 → R (144 * (d + 1) + 4 * k + l) = FV e sl R (d + 1) k l) ∧ ∀ l : Nat, l < 4 → P l → R (144 * (d + 1) + 4 * c + l) = FV e sl R (d + 1) c l
theorem SOLP_0 {e : NE} {sl : Nat → Nat → Nat → Int → Int} {N : Nat} {F R : Nat → Int} {d : Nat} (h : SOL e sl N F R d) {P : Nat → Prop} (hP : ∀ l, ¬P l) : SOLP e sl N F R d 0 P := ⟨h, fun k l hk => absurd hk (Nat.not_lt_zero k), fun l _ hl => absurd hl (hP l)⟩
theorem SOLP_c {e : NE} {sl : Nat → Nat → Nat → Int → Int} {N : Nat} {F R : Nat → Int} {d c : Nat} {P P' : Nat → Prop} (h : SOLP e sl N F R d c P) (hP : ∀ l, l < 4 → P l) (hP' : ∀ l, ¬P' l) : SOLP e sl N F R d (c + 1) P' := by
  refine ⟨h.1, fun k l hk hl => ?_, fun l _ hl => absurd hl (hP' l)⟩
  by_cases hq : k < c
  · exact h.2.1 k l hq hl
  · rw [show k = c by omega]
    exact h.2.2 l hl (hP l hl)
theorem SOLP_s {e : NE} {sl : Nat → Nat → Nat → Int → Int} {N : Nat} {F R : Nat → Int} {d c : Nat} {P : Nat → Prop} (h : SOLP e sl N F R d c P) (hN : N ≤ c) : SOL e sl N F R (d + 1) := by
  refine ⟨h.1.1, fun s k l h1 h2 hk hl => ?_⟩
  by_cases hq : s = d + 1
  · subst hq
    exact h.2.1 k l (by omega) hl
  · exact h.1.2 s k l h1 (by omega) hk hl
/-- one more letter is made -/
theorem SOLP_w {e : NE} {sl : Nat → Nat → Nat → Int → Int} {N : Nat} {F R R' : Nat → Int} {d c l : Nat} {P P' : Nat → Prop} {x : Int} (h : SOLP e sl N F R d c P) (w : NEW e N) (wt : ∀ l : Nat, l < 4 → 0 ≤ e.pl l → 0 ≤ e.tf l ∧ 0 ≤ e.tm l) (hr : ∀ s k i : Nat, k < N → i < 4 → R' (144 * s + 4 * k + i) = if s = d + 1 ∧ k = c ∧ i = l then x else R (144 * s + 4 * k + i)) (hx : x = FV e sl R (d + 1) c l) (hc : c < N) (hl : l < 4) (hP : ∀ i : Nat, i < 4 → P i → 0 ≤ e.pl l → e.pl i ≤ e.pl l) (hP' : ∀ i : Nat, P' i → P i ∨ i = l) : SOLP e sl N F R' d c P' := by
  have key : ∀ s k i : Nat, 1 ≤ s → k < N → i < 4 → (s ≤ d ∨ s = d + 1 ∧ (k ≠ c ∨ (0 ≤ e.pl l → e.pl i ≤ e.pl l))) → FV e sl R' s k i = FV e sl R s k i := fun s k i h1 hk hi hq => by
    unfold FV
    rw [mkV_lk (N := N) (R := R') (R' := R) ⟨fun k2 j hk2 hj => ?_, fun j hj h0 hjp => ?_⟩ w hk hi (wt i hi)]
    · rw [hr _ _ _ hk2 hj, if_neg (by omega)]
    · rw [hr _ _ _ hk hj, if_neg ?_]
      rintro ⟨rfl, rfl, rfl⟩
      rcases hq with hq | ⟨-, hq | hq⟩
      · omega
      · exact hq rfl
      · have := hq h0
        omega
  refine ⟨⟨fun k i hk hi => ?_, fun s k i h1 h2 hk hi => ?_⟩, fun k i hk hi => ?_, fun i hi hp => ?_⟩
  · have q := hr 0 k i hk hi
    rw [show 144 * 0 + 4 * k + i = 4 * k + i by omega, if_neg (by omega)] at q
    rw [q]
    exact h.1.1 k i hk hi
  · rw [hr _ _ _ hk hi, if_neg (by omega), key s k i h1 hk hi (Or.inl h2)]
    exact h.1.2 s k i h1 h2 hk hi
  · rw [hr _ _ _ (by omega) hi, if_neg (by omega), key _ k i (by omega) (by omega) hi (Or.inr ⟨rfl, Or.inl (by omega)⟩)]
    exact h.2.1 k i hk hi
  · rw [hr _ _ _ hc hi]
    by_cases hq : i = l
    · subst hq
      rw [if_pos ⟨rfl, rfl, rfl⟩, key _ c i (by omega) hc hi (Or.inr ⟨rfl, Or.inr (fun _ => Int.le_refl _)⟩)]
      exact hx
    · have hpi : P i := by
        rcases hP' i hp with g | g
        · exact g
        · exact absurd g hq
      rw [if_neg (fun z => hq z.2.2), key _ c i (by omega) hc hi (Or.inr ⟨rfl, Or.inr (hP i hi hpi)⟩)]
      exact h.2.2 i hi hpi
/-- letters whose turn has been -/
def TUR (Z : ZT) (v : Int) (l : Nat) : Prop := ∃ t : Nat, (t : Int) < v ∧ Z 20 t = l
theorem TUR_all {Z : ZT} {v : Int} (h : ORD Z 19) (hv : 4 ≤ v) : ∀ l, l < 4 → TUR Z v l := fun l hl => by
  obtain ⟨t, h1, h2, -⟩ := h.1 l hl
  exact ⟨t, by omega, h2⟩
theorem TUR_no {Z : ZT} {v : Int} (hv : v ≤ 0) : ∀ l, ¬TUR Z v l := fun l ⟨t, h, _⟩ => by omega
theorem TUR_s {Z : ZT} {v v' : Int} {l0 : Nat} (hl : Z 20 v.toNat = l0) (hv : v' = v + 1) : ∀ i : Nat, TUR Z v' i → TUR Z v i ∨ i = l0 := fun i ⟨t, h1, h2⟩ => by
  by_cases hq : (t : Int) < v
  · exact Or.inl ⟨t, hq, h2⟩
  · refine Or.inr ?_
    rw [show t = v.toNat by omega, hl] at h2
    omega
theorem TUR_p {Z : ZT} {v : Int} {l0 : Nat} (h : ORD Z 19) (h4 : 0 ≤ v ∧ v ≤ 3) (hl : Z 20 v.toNat = l0) (hl4 : l0 < 4) : ∀ i : Nat, i < 4 → TUR Z v i → 0 ≤ Z 21 l0 → Z 21 i ≤ Z 21 l0 := fun i hi ⟨t, h1, h2⟩ hp => by
  obtain ⟨t0, a1, a2, a3, -⟩ := h.1 l0 hl4
  obtain ⟨t1, b1, b2, b3, -⟩ := h.1 i hi
  simp only [Nat.reduceAdd] at a2 a3 b2 b3
  have e0 := h.2 t0 v.toNat a1 (by omega) (a2.trans hl.symm)
  have e1 := h.2 t1 t b1 (by omega) (b2.trans h2.symm)
  have a3' := a3 hp
  by_cases hq : 0 ≤ Z 21 i
  · have b3' := b3 hq
    omega
  · omega
theorem NEW_c {Z : ZT} {g N : Nat} (hg : NRW Z g) (hN : (N : Int) = Z g 2) (hn : ∀ l t : Nat, l < 4 → 0 ≤ Z 21 l → Z 22 l ≤ t → (t : Int) < Z 22 l + Z 23 l → (20 ≤ mN (Z 27 t) → 0 ≤ Z 21 (mN (Z 27 t) - 20).toNat ∧ Z 21 (mN (Z 27 t) - 20).toNat < Z 21 l) ∧ (20 ≤ mN (Z 28 t) → 0 ≤ Z 21 (mN (Z 28 t) - 20).toNat ∧ Z 21 (mN (Z 28 t) - 20).toNat < Z 21 l)) (hp : PLW Z) : NEW (envN Z g) N := by
  refine ⟨fun c s hc hs => ?_, fun l t hl h0 h1 h2 => ?_⟩
  · have q := (hg c (by omega)).2 s hs
    show Z (g + 1) (5 * c + s) < N
    omega
  · obtain ⟨p1, -, p3⟩ := hp
    obtain ⟨⟨a1, a2, a3⟩, -⟩ := p1 l hl h0
    have h1' : Z 22 l ≤ t := h1
    have h2' : (t : Int) < Z 22 l + Z 23 l := h2
    obtain ⟨b1, b2, -⟩ := p3 t (by omega)
    have q := hn l t hl h0 h1' h2'
    have m1 := mN_nc b1
    have m2 : -1 ≤ mN (Z 28 t) ∧ mN (Z 28 t) ≤ 23 := by
      rcases b2 with b2 | b2
      · rw [b2]
        decide
      · have := mN_nc b2
        omega
    exact ⟨⟨m1.1, m1.2, q.1⟩, m2.1, m2.2, q.2⟩
/-- names of this step mean letters ahead -/
def NWC (Z : ZT) : Prop := ∀ l t : Nat, l < 4 → 0 ≤ Z 21 l → Z 22 l ≤ t → (t : Int) < Z 22 l + Z 23 l → (20 ≤ mN (Z 27 t) → 0 ≤ Z 21 (mN (Z 27 t) - 20).toNat ∧ Z 21 (mN (Z 27 t) - 20).toNat < Z 21 l) ∧ (20 ≤ mN (Z 28 t) → 0 ≤ Z 21 (mN (Z 28 t) - 20).toNat ∧ Z 21 (mN (Z 28 t) - 20).toNat < Z 21 l)
/-- which slips a board's numbers bear -/
def slB (Z : ZT) (b : Nat) : Nat → Nat → Nat → Int → Int := if Z b 1 = 0 then fun _ _ _ v => v else slC Z (Z b 3)
/-- what a board begins with: first numbers (small: its own step 0) -/
def FZ0 (Z : ZT) (b g : Nat) : Nat → Int := if b = 76 then BR Z 76 else fun k => fiV (envN Z g) (Z 29) (k / 4) (k % 4)
/-- what a board's row holds as far as it is made -/
def BM (Z : ZT) (b g : Nat) : Prop := 0 ≤ Z b 4 → SOL (envN Z g) (slB Z b) (Z g 2).toNat (FZ0 Z b g) (BR Z b) (Z b 4).toNat
theorem SOL_f {e : NE} {sl : Nat → Nat → Nat → Int → Int} {N : Nat} {F R : Nat → Int} (h : ∀ k l : Nat, k < N → l < 4 → R (4 * k + l) = F (4 * k + l)) : SOL e sl N F R 0 := ⟨h, fun s c l h1 h2 => by omega⟩
theorem SOL_o {Z Z' : ZT} {b : Nat} {e : NE} {sl : Nat → Nat → Nat → Int → Int} {N d : Nat} {F : Nat → Int} (q : Z' (b + 1) = Z (b + 1)) (h : SOL e sl N F (BR Z b) d) : SOL e sl N F (BR Z' b) d := by
  have e1 : BR Z' b = BR Z b := by
    funext k
    unfold BR
    rw [q]
  rw [e1]
  exact h
theorem SOLP_o {Z Z' : ZT} {b : Nat} {e : NE} {sl : Nat → Nat → Nat → Int → Int} {N d c : Nat} {P : Nat → Prop} {F : Nat → Int} (q : Z' (b + 1) = Z (b + 1)) (h : SOLP e sl N F (BR Z b) d c P) : SOLP e sl N F (BR Z' b) d c P := by
  have e1 : BR Z' b = BR Z b := by
    funext k
    unfold BR
    rw [q]
  rw [e1]
  exact h
theorem SOLP_u {Z Z1 Z' : ZT} {b g : Nat} {F : Nat → Int} {v4 v5 v6 v6' lt m x : Int} (h : SOLP (envN Z g) (slB Z b) (Z g 2).toNat F (BR Z1 b) (v4 - 1).toNat v5.toNat (TUR Z v6)) (hn : NEW (envN Z g) (Z g 2).toNat) (hp : PLW Z) (ho : ORD Z 19) (hr : Z g 2 ≤ rmB b) (hl : lt = Z 20 v6.toNat) (hl3 : 0 ≤ lt ∧ lt ≤ 3) (hm : m = mkV (envN Z g) (BR Z1 b) v4.toNat v5.toNat lt.toNat) (hx : Z b 1 = 0 ∧ x = m ∨ Z b 1 ≠ 0 ∧ x = slC Z (Z b 3) v4.toNat v5.toNat lt.toNat m) (hu : Z' (b + 1) = upZ Z1 (b + 1) (4 * rmB b * v4.toNat + 4 * v5.toNat + lt.toNat) x (b + 1)) (h4 : 1 ≤ v4) (h5 : 0 ≤ v5 ∧ v5 < Z g 2) (h6 : 0 ≤ v6 ∧ v6 ≤ 3) (hv : v6' = v6 + 1) : SOLP (envN Z g) (slB Z b) (Z g 2).toNat F (BR Z' b) (v4 - 1).toNat v5.toNat (TUR Z v6') := by
  have ed : (v4 - 1).toNat + 1 = v4.toNat := by omega
  refine SOLP_w (l := lt.toNat) (x := x) h hn (fun l hl hp0 => ⟨(hp.1 l hl hp0).1.1, (hp.1 l hl hp0).1.2.1⟩) (fun s k i hk hi => ?_) ?_ (by omega) (by omega) (fun i hi hpi => TUR_p ho h6 (by omega) (by omega) i hi hpi) (TUR_s (by omega) hv)
  · rw [ed]
    exact BR_up hu (by omega) hi (by omega) (by omega)
  · unfold FV slB
    rw [ed, ← hm]
    rcases hx with ⟨x1, x2⟩ | ⟨x1, x2⟩
    · rw [if_pos x1]
      exact x2
    · rw [if_neg x1]
      exact x2
theorem SOLP_c2 {e : NE} {sl : Nat → Nat → Nat → Int → Int} {N d : Nat} {F R : Nat → Int} {v v' : Int} {P P' : Nat → Prop} (h : SOLP e sl N F R d v.toNat P) (hP : ∀ l, l < 4 → P l) (hP' : ∀ l, ¬P' l) (h0 : 0 ≤ v) (hv : v' = v + 1) : SOLP e sl N F R d v'.toNat P' := by
  rw [show v'.toNat = v.toNat + 1 by omega]
  exact SOLP_c h hP hP'
theorem SOLP_s2 {e : NE} {sl : Nat → Nat → Nat → Int → Int} {N : Nat} {F R : Nat → Int} {v4 v4' v5 : Int} {P : Nat → Prop} (h : SOLP e sl N F R (v4 - 1).toNat v5.toNat P) (hN : N ≤ v5.toNat) (h4 : 1 ≤ v4) (hv : v4' = v4 + 1) : SOL e sl N F R (v4' - 1).toNat := by
  rw [show (v4' - 1).toNat = (v4 - 1).toNat + 1 by omega]
  exact SOLP_s h hN
theorem SOL_b {Z : ZT} {b g : Nat} {v : Int} (h : BM Z b g) (h0 : 0 ≤ Z b 4) (hv : v - 1 = Z b 4) : SOL (envN Z g) (slB Z b) (Z g 2).toNat (FZ0 Z b g) (BR Z b) (v - 1).toNat := by
  rw [hv]
  exact h h0
theorem FZ0_at {Z : ZT} {b g c l : Nat} (hb : b ≠ 76) (hl : l < 4) : FZ0 Z b g (4 * c + l) = fiV (envN Z g) (Z 29) c l := by
  unfold FZ0
  rw [if_neg hb]
  show fiV _ _ ((4 * c + l) / 4) ((4 * c + l) % 4) = _
  rw [show (4 * c + l) / 4 = c by omega, show (4 * c + l) % 4 = l by omega]
theorem SOL_0f {Z Z2 Z3 : ZT} {b g : Nat} {v : Int} (h : FTK (BR Z2 b) (envN Z g) (Z 29) (Z g 2) 0) (hb : b ≠ 76) (hu : Z3 (b + 1) = Z2 (b + 1)) (hv : v = 1) : SOL (envN Z g) (slB Z b) (Z g 2).toNat (FZ0 Z b g) (BR Z3 b) (v - 1).toNat := by
  subst hv
  refine SOL_o hu (SOL_f (fun k l hk hl => ?_))
  rw [FZ0_at hb hl]
  exact h.1 k l (by omega) hl
theorem slB_o {Z Z' : ZT} {b : Nat} (h1 : Z' b 1 = Z b 1) (h3 : Z' b 3 = Z b 3) (h : ∀ o, 31 ≤ o → o ≤ 34 → Z' o = Z o) (h4 : Z' 18 4 = Z 18 4) : slB Z' b = slB Z b := by
  unfold slB slC
  rw [h1, h3, h 31 (by omega) (by omega), h 32 (by omega) (by omega), h 33 (by omega) (by omega), h 34 (by omega) (by omega), h4]
theorem BM_e {Z Z1 : ZT} {b g : Nat} {v : Int} (h : SOL (envN Z g) (slB Z b) (Z g 2).toNat (FZ0 Z b g) (BR Z1 b) (v - 1).toNat) (hd : Z1 b 4 = v - 1) (hen : envN Z1 g = envN Z g) (hg : Z1 g 2 = Z g 2) (h29 : Z1 29 = Z 29) (hsl : slB Z1 b = slB Z b) : BM Z1 b g := by
  intro _
  rw [hen, hsl, hg, hd]
  refine ⟨fun c l hc hl => ?_, h.2⟩
  by_cases hb : b = 76
  · unfold FZ0
    rw [if_pos hb, hb]
  · rw [FZ0_at hb hl, hen, h29, ← FZ0_at (Z := Z) hb hl]
    exact h.1 c l hc hl
theorem BM_o {Z Z' : ZT} {b g : Nat} (hen : envN Z' g = envN Z g) (hg : Z' g 2 = Z g 2) (h29 : Z' 29 = Z 29) (hsl : slB Z' b = slB Z b) (hb : Z' (b + 1) = Z (b + 1)) (hd : Z' b 4 = Z b 4) (h : BM Z b g) : BM Z' b g := by
  intro h0
  exact BM_e (v := Z b 4 + 1) (SOL_o hb (SOL_b h (by omega) (by omega))) (by omega) hen hg h29 hsl h0
/-- step 0 of a row -/
def ST0 (F R : Nat → Int) (N : Nat) : Prop := ∀ c l : Nat, c < N → l < 4 → R (4 * c + l) = F (4 * c + l)
theorem ST0_b {e : NE} {sl : Nat → Nat → Nat → Int → Int} {N d : Nat} {F R : Nat → Int} (h : SOL e sl N F R d) : ST0 F R N := fun c l hc hl => h.1 c l hc hl
theorem BM_n {Z : ZT} {b g : Nat} (h : Z b 4 = -1) : BM Z b g := fun h0 => by omega
theorem sl_c {Z Z1 : ZT} {b : Nat} {v4 v5 lt m x y : Int} (hx : x = slF (Z1 31) (Z1 32) (Z1 33) (Z1 34) (onC y) v4 v5 lt m (Z1 18 4).toNat) (h : ∀ o, 31 ≤ o → o ≤ 34 → Z1 o = Z o) (h4 : Z1 18 4 = Z 18 4) (hy : y = Z b 3) (k4 : 0 ≤ v4) (k5 : 0 ≤ v5) (kl : 0 ≤ lt) : x = slC Z (Z b 3) v4.toNat v5.toNat lt.toNat m := by
  unfold slC
  rw [show ((v4.toNat : Nat) : Int) = v4 by omega, show ((v5.toNat : Nat) : Int) = v5 by omega, show ((lt.toNat : Nat) : Int) = lt by omega, hx, hy, h 31 (by omega) (by omega), h 32 (by omega) (by omega), h 33 (by omega) (by omega), h 34 (by omega) (by omega), h4]
