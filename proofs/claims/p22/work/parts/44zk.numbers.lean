/-! ===== numbers: what each place holds ===== -/
/-- beside; rims; places, starts, counts, divisors, nearest; factors, names, seconds -/
abbrev NE : Type := (Nat → Nat → Int) × (Nat → Int) × (Nat → Int) × (Nat → Int) × (Nat → Int) × (Nat → Int) × (Nat → Int) × (Nat → Int) × (Nat → Int) × (Nat → Int)
def NE.nxt (e : NE) : Nat → Nat → Int := e.1
def NE.rim (e : NE) : Nat → Int := e.2.1
def NE.pl (e : NE) : Nat → Int := e.2.2.1
def NE.tf (e : NE) : Nat → Int := e.2.2.2.1
def NE.tm (e : NE) : Nat → Int := e.2.2.2.2.1
def NE.dv (e : NE) : Nat → Int := e.2.2.2.2.2.1
def NE.nr (e : NE) : Nat → Int := e.2.2.2.2.2.2.1
def NE.fa (e : NE) : Nat → Int := e.2.2.2.2.2.2.2.1
def NE.nm (e : NE) : Nat → Int := e.2.2.2.2.2.2.2.2.1
def NE.sc (e : NE) : Nat → Int := e.2.2.2.2.2.2.2.2.2
/-- the number of a name (the model's code) for a cell and a step -/
def nmW (e : NE) (R : Nat → Int) (a : Int) (s c : Nat) : Int := if 20 ≤ a then R (144 * s + 4 * c + (a % 4).toNat) else if e.nxt c (a / 4).toNat < 0 then e.rim (a % 4).toNat else R (144 * (s - 1) + 4 * (e.nxt c (a / 4).toNat).toNat + (a % 4).toNat)
def szW (x : Int) : Int := if x < 0 then w64 (-x) else x
def tmV (e : NE) (R : Nat → Int) (t s c : Nat) : Option Int := if nmW e R (e.nm t) s c = 2000000000 then none else if 0 ≤ e.sc t ∧ nmW e R (e.sc t) s c = 2000000000 then none else if 1000000000000000 < szW (w64 (nmW e R (e.nm t) s c * (if e.sc t < 0 then 1 else nmW e R (e.sc t) s c))) then none else if 1000000000000000 < szW (w64 (e.fa t * w64 (nmW e R (e.nm t) s c * (if e.sc t < 0 then 1 else nmW e R (e.sc t) s c)))) then none else some (w64 (e.fa t * w64 (nmW e R (e.nm t) s c * (if e.sc t < 0 then 1 else nmW e R (e.sc t) s c))))
def lnV (e : NE) (R : Nat → Int) (t0 s c : Nat) : Nat → Option Int
  | 0 => some 0
  | k + 1 => match lnV e R t0 s c k, tmV e R (t0 + k) s c with
    | some a, some b => some (w64 (a + b))
    | _, _ => none
def dvV (e : NE) (l : Nat) (S : Int) : Int := if 1000000000000000 < S ∨ S < -1000000000000000 then 2000000000 else if 1000000000 < (if e.nr l = 1 then (2 * S + e.dv l) / (2 * e.dv l) else S / e.dv l) ∨ (if e.nr l = 1 then (2 * S + e.dv l) / (2 * e.dv l) else S / e.dv l) < -1000000000 then 2000000000 else (if e.nr l = 1 then (2 * S + e.dv l) / (2 * e.dv l) else S / e.dv l)
/-- what a letter's line makes of a row -/
def mkV (e : NE) (R : Nat → Int) (s c l : Nat) : Int := if e.pl l < 0 then R (144 * (s - 1) + 4 * c + l) else match lnV e R (e.tf l).toNat s c (e.tm l).toNat with
  | none => 2000000000
  | some S => dvV e l S
/-- with what slips make of it (sl: step, cell, letter, number) -/
def FV (e : NE) (sl : Nat → Nat → Nat → Int → Int) (R : Nat → Int) (s c l : Nat) : Int := sl s c l (mkV e R s c l)
/-- rows alike where a letter at (s, c) looks: the step before, letters with a line of a lower place -/
def LK (e : NE) (N : Nat) (R R' : Nat → Int) (s c l : Nat) : Prop := (∀ k i : Nat, k < N → i < 4 → R (144 * (s - 1) + 4 * k + i) = R' (144 * (s - 1) + 4 * k + i)) ∧ ∀ i : Nat, i < 4 → 0 ≤ e.pl i → e.pl i < e.pl l → R (144 * s + 4 * c + i) = R' (144 * s + 4 * c + i)
/-- the environment is as plans and grids are: neighbours are cells, names of this step have lines ahead -/
def NEW (e : NE) (N : Nat) : Prop := (∀ c s : Nat, c < N → s ≤ 4 → e.nxt c s < N) ∧ ∀ l t : Nat, l < 4 → 0 ≤ e.pl l → e.tf l ≤ t → (t : Int) < e.tf l + e.tm l → (0 ≤ e.nm t ∧ e.nm t ≤ 23 ∧ (20 ≤ e.nm t → 0 ≤ e.pl (e.nm t - 20).toNat ∧ e.pl (e.nm t - 20).toNat < e.pl l)) ∧ (-1 ≤ e.sc t ∧ e.sc t ≤ 23 ∧ (20 ≤ e.sc t → 0 ≤ e.pl (e.sc t - 20).toNat ∧ e.pl (e.sc t - 20).toNat < e.pl l))
theorem nmW_lk {e : NE} {N s c l : Nat} {R R' : Nat → Int} {a : Int} (h : LK e N R R' s c l) (hn : ∀ k : Nat, k ≤ 4 → e.nxt c k < N) (h0 : 0 ≤ a) (h1 : a ≤ 23) (hp : 20 ≤ a → 0 ≤ e.pl (a - 20).toNat ∧ e.pl (a - 20).toNat < e.pl l) : nmW e R a s c = nmW e R' a s c := by
  unfold nmW
  by_cases h20 : 20 ≤ a
  · rw [if_pos h20, if_pos h20, show (a % 4).toNat = (a - 20).toNat by omega]
    exact h.2 _ (by omega) (hp h20).1 (hp h20).2
  · rw [if_neg h20, if_neg h20]
    by_cases hq : e.nxt c (a / 4).toNat < 0
    · rw [if_pos hq, if_pos hq]
    · rw [if_neg hq, if_neg hq]
      have q := hn (a / 4).toNat (by omega)
      exact h.1 _ _ (by omega) (by omega)
theorem tmV_lk {e : NE} {N s c l t : Nat} {R R' : Nat → Int} (h : LK e N R R' s c l) (w : NEW e N) (hc : c < N) (hl : l < 4) (hp : 0 ≤ e.pl l) (t1 : e.tf l ≤ t) (t2 : (t : Int) < e.tf l + e.tm l) : tmV e R t s c = tmV e R' t s c := by
  obtain ⟨w1, w2⟩ := w
  obtain ⟨⟨a0, a1, a2⟩, b0, b1, b2⟩ := w2 l t hl hp t1 t2
  have q1 := nmW_lk h (fun k hk => w1 c k hc hk) a0 a1 a2
  unfold tmV
  rw [q1]
  by_cases hq : e.sc t < 0
  · rw [if_pos hq, if_pos hq, if_neg (fun g => by omega : ¬(0 ≤ e.sc t ∧ nmW e R (e.sc t) s c = 2000000000)), if_neg (fun g => by omega : ¬(0 ≤ e.sc t ∧ nmW e R' (e.sc t) s c = 2000000000))]
  · have q2 := nmW_lk h (fun k hk => w1 c k hc hk) (by omega : 0 ≤ e.sc t) b1 b2
    rw [q2]
theorem lnV_lk {e : NE} {N s c l : Nat} {R R' : Nat → Int} (h : LK e N R R' s c l) (w : NEW e N) (hc : c < N) (hl : l < 4) (hp : 0 ≤ e.pl l) (h0 : 0 ≤ e.tf l) : ∀ k : Nat, (k : Int) ≤ e.tm l → lnV e R (e.tf l).toNat s c k = lnV e R' (e.tf l).toNat s c k
  | 0, _ => rfl
  | k + 1, hk => by
    have ih := lnV_lk h w hc hl hp h0 k (by omega)
    have q := tmV_lk (t := (e.tf l).toNat + k) h w hc hl hp (by omega) (by omega)
    show (match lnV e R (e.tf l).toNat s c k, tmV e R ((e.tf l).toNat + k) s c with
      | some a, some b => some (w64 (a + b))
      | _, _ => none) = _
    rw [ih, q]
    rfl
theorem mkV_lk {e : NE} {N s c l : Nat} {R R' : Nat → Int} (h : LK e N R R' s c l) (w : NEW e N) (hc : c < N) (hl : l < 4) (h0 : 0 ≤ e.pl l → 0 ≤ e.tf l ∧ 0 ≤ e.tm l) : mkV e R s c l = mkV e R' s c l := by
  unfold mkV
  by_cases hp : e.pl l < 0
  · rw [if_pos hp, if_pos hp]
    exact h.1 c l hc hl
  · rw [if_neg hp, if_neg hp, lnV_lk h w hc hl (by omega) (h0 (by omega)).1 _ (by omega)]
/-- a row made so far: steps up to d -/
def SOL (e : NE) (sl : Nat → Nat → Nat → Int → Int) (N : Nat) (R0 R : Nat → Int) (d : Nat) : Prop := (∀ c l : Nat, c < N → l < 4 → R (4 * c + l) = R0 (4 * c + l)) ∧ ∀ s c l : Nat, 1 ≤ s → s ≤ d → c < N → l < 4 → R (144 * s + 4 * c + l) = FV e sl R s c l
theorem SOL_u {e : NE} {sl : Nat → Nat → Nat → Int → Int} {N d : Nat} {R0 R R' : Nat → Int} (h : SOL e sl N R0 R d) (g : SOL e sl N R0 R' d) (w : NEW e N) (wt : ∀ l : Nat, l < 4 → 0 ≤ e.pl l → 0 ≤ e.tf l ∧ 0 ≤ e.tm l) : ∀ s : Nat, s ≤ d → ∀ c l : Nat, c < N → l < 4 → R (144 * s + 4 * c + l) = R' (144 * s + 4 * c + l)
  | 0, _, c, l, hc, hl => by
    have a := h.1 c l hc hl
    have b := g.1 c l hc hl
    rw [show 144 * 0 + 4 * c + l = 4 * c + l by omega, a, b]
  | s + 1, hs, c, l, hc, hl => by
    have ih := SOL_u h g w wt s (by omega)
    have key : ∀ (n : Nat) (i : Nat), i < 4 → e.pl i < n → R (144 * (s + 1) + 4 * c + i) = R' (144 * (s + 1) + 4 * c + i) := by
      intro n
      induction n with
      | zero => 
        intro i hi hp
        rw [h.2 (s + 1) c i (by omega) hs hc hi, g.2 (s + 1) c i (by omega) hs hc hi]
        unfold FV
        rw [mkV_lk (R' := R') ⟨fun k j hk hj => ih k j hk hj, fun j hj h0 h1 => by omega⟩ w hc hi (wt i hi)]
      | succ n ihn =>
        intro i hi hp
        rw [h.2 (s + 1) c i (by omega) hs hc hi, g.2 (s + 1) c i (by omega) hs hc hi]
        unfold FV
        rw [mkV_lk (R' := R') ⟨fun k j hk hj => ih k j hk hj, fun j hj h0 h1 => ihn j hj (by omega)⟩ w hc hi (wt i hi)]
    exact key ((e.pl l).toNat + 1) l hl (by omega)
