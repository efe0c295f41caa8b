/-! ===== the model's reader, exactly: a term ===== -/
theorem pm_up {Z Z' : ZT} {o k : Nat} {a : Int} (hu : Z' = upZ Z o k a) (h : (104 : Nat) ≠ o) : plM Z' = plM Z := pm_eq (up_o hu h)
theorem pm_kp {S : List Nat} {Z Z' : ZT} (h : kp S Z Z') (hS : avo S 104 = true) : plM Z' = plM Z := pm_eq (kp_av h hS (by decide))
theorem nmo_at {b b' pl pl' : Int → Int} {x k z w w0 : Int} (hb : b' = b) (hl : pl' = pl) (h : NMO b' pl' k x z w w0) : ∀ q, q = k → NMO b pl q x z w w0 := by
  rintro q rfl
  rw [← hb, ← hl]
  exact h
theorem up_a1 {Z Zc Z' : ZT} {o k : Nat} {a : Int} (hu : Z' = upZ Zc o k a) (e : Zc o = Z o) : Z' o = upZ Z o k a o := (congrFun hu o).trans (up_row e rfl)
theorem up_a2 {Z Zc Z' : ZT} {o k k' : Nat} {a a0 : Int} (hu : Z' = upZ Zc o k a) (e : Zc o = upZ Z o k' a0 o) (hk : k = k') : Z' o = upZ Z o k a o := by
  subst hk
  refine (congrFun hu o).trans ?_
  funext q
  by_cases hq : q = k
  · rw [hq, up_eq, up_eq]
  · rw [up_nk hq, up_nk hq, e, up_nk hq]
theorem nuE_gt {b : Int → Int} {p : Int} (h : 48 ≤ b p ∧ b p ≤ 57) : p + 1 ≤ nuE b p := by
  have e : nuE b p = dgE b 199 (p + 1) := dgE_d (k := 199) h
  rw [e]
  exact dgE_ge b 199 (p + 1)
theorem nuE_no {b : Int → Int} {p : Int} (h : ¬(48 ≤ b p ∧ b p ≤ 57)) : nuE b p = p := dgE_n (k := 199) h
theorem TM_num {b pl : Int → Int} {p s q0 x z w w0 v0 : Int} (h : tmHd b p s q0) (he : z = nuE b q0) (hn : nuOK b q0 999 ∧ x = nuV b q0 ∧ w = w0 ∨ ¬(48 ≤ b q0 ∧ b q0 ≤ 57) ∧ x = 0 ∧ w = w0 ∨ (48 ≤ b q0 ∧ b q0 ≤ 57) ∧ ¬nuOK b q0 999 ∧ (w0 < 0 ∧ w = q0 ∨ 0 ≤ w0 ∧ w = w0)) (hw : w0 < 0) (hq : 0 ≤ q0) (hx : w < 0 → x ≤ 999 ∧ (z = q0 ∨ 1 ≤ x)) (hv : w0 = v0) : ∃ q0 f : Int, tmHd b p s q0 ∧ (w = v0 ∧ tmNu b q0 z f ∧ (x = 0 ∧ f = 1 ∨ x ≠ 0 ∧ f = x) ∧ 1 ≤ f ∧ f ≤ 999 ∨ 0 ≤ w ∧ tmB b pl p = w) := by
  rcases hn with ⟨h1, h2, h3⟩ | ⟨h1, h2, h3⟩ | ⟨h1, h2, h3⟩
  · have g := nuE_gt h1.1
    have g2 := hx (by omega)
    exact ⟨q0, x, h, Or.inl ⟨by omega, Or.inl ⟨h1.1, h1, he, h2⟩, Or.inr ⟨by omega, rfl⟩, by omega, by omega⟩⟩
  · have g := nuE_no h1
    exact ⟨q0, 1, h, Or.inl ⟨by omega, Or.inr ⟨h1, by omega, rfl⟩, Or.inl ⟨h2, rfl⟩, by omega, by omega⟩⟩
  · exact ⟨q0, 1, h, Or.inr ⟨by omega, by rw [tm_b1 h h1 h2]; omega⟩⟩
/-- what lies ahead of what is being read stays -/
def LOW (Z Z' : ZT) : Prop := (∀ o k : Nat, 103 ≤ o → o ≤ 108 → k < 4 → Z' o k = Z o k) ∧ (∀ o k : Nat, 109 ≤ o → o ≤ 111 → k < 80 → Z' o k = Z o k)
theorem LOW_r {Z : ZT} : LOW Z Z := ⟨fun _ _ _ _ _ => rfl, fun _ _ _ _ _ => rfl⟩
theorem LOW_t {Z Z1 Z' : ZT} (h : LOW Z Z1) (g : LOW Z1 Z') : LOW Z Z' := ⟨fun o k h1 h2 h3 => (g.1 o k h1 h2 h3).trans (h.1 o k h1 h2 h3), fun o k h1 h2 h3 => (g.2 o k h1 h2 h3).trans (h.2 o k h1 h2 h3)⟩
theorem LOW_up {Z Z1 Z' : ZT} {o k : Nat} {a : Int} (hu : Z' = upZ Z1 o k a) (h : LOW Z Z1) (hk : (103 ≤ o → o ≤ 108 → 4 ≤ k) ∧ (109 ≤ o → o ≤ 111 → 80 ≤ k)) : LOW Z Z' := by
  refine LOW_t h ⟨fun p q h1 h2 h3 => ?_, fun p q h1 h2 h3 => ?_⟩
  · rw [hu]
    refine if_neg (fun z => ?_)
    obtain ⟨rfl, rfl⟩ := z
    have := hk.1 h1 h2
    omega
  · rw [hu]
    refine if_neg (fun z => ?_)
    obtain ⟨rfl, rfl⟩ := z
    have := hk.2 h1 h2
    omega
theorem LOW_kp {S : List Nat} {Z Z1 Z' : ZT} (hk : kp S Z1 Z') (hS : S.all (fun e => Nat.blt (e % 1000) 103 || Nat.blt 111 (e % 1000)) = true) (h : LOW Z Z1) : LOW Z Z' := by
  have g := kp_out (lo := 103) (hi := 111) hk hS (by decide)
  exact LOW_t h ⟨fun o k h1 h2 _ => congrFun (g o (by omega) (by omega)) k, fun o k h1 h2 _ => congrFun (g o (by omega) (by omega)) k⟩
/-- a term read, or its fault -/
def TMO (b pl : Int → Int) (Z Z' : ZT) (p u : Int) : Prop := Z' 100 33 = Z 100 33 ∧ tmB b pl p = -1 ∧ Z' 100 32 = tmE b p ∧ Z' 109 = upZ Z 109 (80 + u).toNat (tmF b p) 109 ∧ Z' 110 = upZ Z 110 (80 + u).toNat (mN (tmN b p)) 110 ∧ Z' 111 = upZ Z 111 (80 + u).toNat (mN (tmM b p)) 111 ∨ 0 ≤ Z' 100 33 ∧ Z' 100 33 = tmB b pl p
