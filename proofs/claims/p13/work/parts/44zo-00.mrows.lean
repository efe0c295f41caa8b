/-! ===== numbers: the model's rows ===== -/
theorem envH_o {Z Z' : ZT} (h : ∀ o, 101 ≤ o → o ≤ 121 → Z' o = Z o) (h35 : Z' 100 35 = Z 100 35) (h36 : Z' 100 36 = Z 100 36) (h2 : Z' 100 2 = Z 100 2) : envH Z' = envH Z := by
  unfold envH
  rw [h35, h36, h2, h 101 (by omega) (by omega), h 104 (by omega) (by omega), h 105 (by omega) (by omega), h 106 (by omega) (by omega), h 107 (by omega) (by omega), h 108 (by omega) (by omega), h 109 (by omega) (by omega), h 110 (by omega) (by omega), h 111 (by omega) (by omega)]
theorem envHW_o {Z Z' : ZT} (h : ∀ o, 101 ≤ o → o ≤ 121 → Z' o = Z o) (h35 : Z' 100 35 = Z 100 0) (h36 : Z' 100 36 = Z 100 1) (h2 : Z' 100 2 = Z 100 2) : envH Z' = envW Z := by
  unfold envH envW
  rw [h35, h36, h2, h 101 (by omega) (by omega), h 104 (by omega) (by omega), h 105 (by omega) (by omega), h 106 (by omega) (by omega), h 107 (by omega) (by omega), h 108 (by omega) (by omega), h 109 (by omega) (by omega), h 110 (by omega) (by omega), h 111 (by omega) (by omega)]
theorem slM_o {Z Z' : ZT} {set : Int} (h : ∀ o, 101 ≤ o → o ≤ 121 → Z' o = Z o) (h19 : Z' 100 19 = Z 100 19) : slM Z' set = slM Z set := by
  unfold slM
  rw [h19, h 113 (by omega) (by omega), h 114 (by omega) (by omega), h 115 (by omega) (by omega), h 116 (by omega) (by omega)]
/-- the lines' letters, the letters' lines -/
def LNO (Z : ZT) : Prop := (∀ k : Nat, (k : Int) < Z 100 7 → (0 ≤ Z 103 k ∧ Z 103 k ≤ 3) ∧ Z 104 (Z 103 k).toNat = k) ∧ ∀ l : Nat, l < 4 → 0 ≤ Z 104 l → Z 104 l < Z 100 7 ∧ Z 103 (Z 104 l).toNat = l
def NWM (Z : ZT) : Prop := ∀ l t : Nat, l < 4 → 0 ≤ Z 104 l → Z 105 l ≤ t → (t : Int) < Z 105 l + Z 106 l → (20 ≤ Z 110 t → 0 ≤ Z 104 (Z 110 t - 20).toNat ∧ Z 104 (Z 110 t - 20).toNat < Z 104 l) ∧ (20 ≤ Z 111 t → 0 ≤ Z 104 (Z 111 t - 20).toNat ∧ Z 104 (Z 111 t - 20).toNat < Z 104 l)
theorem LNO_o {Z Z' : ZT} (h : ∀ o, 101 ≤ o → o ≤ 121 → Z' o = Z o) (h7 : Z' 100 7 = Z 100 7) (q : LNO Z) : LNO Z' := by
  unfold LNO at q ⊢
  rw [h7, h 103 (by omega) (by omega), h 104 (by omega) (by omega)]
  exact q
theorem NWM_o {Z Z' : ZT} (h : ∀ o, 101 ≤ o → o ≤ 121 → Z' o = Z o) (q : NWM Z) : NWM Z' := by
  unfold NWM at q ⊢
  rw [h 104 (by omega) (by omega), h 105 (by omega) (by omega), h 106 (by omega) (by omega), h 110 (by omega) (by omega), h 111 (by omega) (by omega)]
  exact q
theorem NEW_m {Z : ZT} {N : Nat} (hN : (N : Int) = Z 100 35 * Z 100 36) (hI : CI Z) (h1 : 1 ≤ Z 100 35) (h2 : 1 ≤ Z 100 36) (hn : NWM Z) : NEW (envH Z) N := by
  have w := hI 100 35 0 6 rfl
  have w' := hI 100 36 0 6 rfl
  refine ⟨fun c s hc hs => ?_, fun l t hl h0 h3 h4 => ?_⟩
  · show nx (Z 100 35) (Z 100 36) (Z 100 2) c s < N
    rw [hN]
    exact nx_lt ⟨h1, w.2⟩ ⟨h2, w'.2⟩ (by omega) hs
  · have q := hn l t hl h0 h3 h4
    have m1 := hI 110 t 0 23 rfl
    have m2 := hI 111 t (-1) 23 rfl
    exact ⟨⟨m1.1, m1.2, q.1⟩, m2.1, m2.2, q.2⟩
/-- letters whose turn has been (places first, then those without a line) -/
def TUM (Z : ZT) (v : Int) (l : Nat) : Prop := l < 4 ∧ (0 ≤ Z 104 l ∧ Z 104 l < v ∨ Z 104 l < 0 ∧ (l : Int) < v - 4)
def TUQ (Z : ZT) (v5 v6 : Int) : Prop := v6 = -1 ∧ (∀ i : Nat, TUM Z (v5 + 1) i → TUM Z v5 i) ∨ (0 ≤ v6 ∧ v6 ≤ 3) ∧ (∀ i : Nat, i < 4 → TUM Z v5 i → 0 ≤ Z 104 v6.toNat → Z 104 i ≤ Z 104 v6.toNat) ∧ ∀ i : Nat, TUM Z (v5 + 1) i → TUM Z v5 i ∨ i = v6.toNat
theorem TUM_0 {Z : ZT} {v : Int} (hv : v ≤ 0) : ∀ l, ¬TUM Z v l := fun l h => by
  have := h.2
  omega
theorem TUM_8 {Z : ZT} {v : Int} (h : LNO Z) (h7 : Z 100 7 ≤ 4) (hv : 8 ≤ v) : ∀ l, l < 4 → TUM Z v l := fun l hl => by
  refine ⟨hl, ?_⟩
  by_cases hq : 0 ≤ Z 104 l
  · have := (h.2 l hl hq).1
    omega
  · omega
theorem TUM_8o {Z Z1 : ZT} {v : Int} (h : LNO Z1) (h7 : Z1 100 7 ≤ 4) (hv : 8 ≤ v) (e : Z1 104 = Z 104) : ∀ l, l < 4 → TUM Z v l := fun l hl => by
  have q := TUM_8 h h7 hv l hl
  unfold TUM at q ⊢
  rw [e] at q
  exact q
theorem TUQ_a {Z : ZT} {v5 v6 : Int} (h : LNO Z) (h0 : 0 ≤ v5 ∧ v5 < 4) (hk : v5 < Z 100 7) (hv : v6 = Z 103 v5.toNat) : TUQ Z v5 v6 := by
  obtain ⟨⟨q1, q2⟩, q3⟩ := h.1 v5.toNat (by omega)
  rw [← hv] at q1 q2 q3
  refine Or.inr ⟨⟨q1, q2⟩, fun i hi hp _ => ?_, fun i hp => ?_⟩
  · have := hp.2
    omega
  · by_cases hq : Z 104 i = v5
    · refine Or.inr ?_
      have q4 := (h.2 i hp.1 (by omega)).2
      rw [hq, ← hv] at q4
      omega
    · refine Or.inl ⟨hp.1, ?_⟩
      have := hp.2
      omega
theorem TUQ_b {Z : ZT} {v5 : Int} (h : LNO Z) (h0 : 0 ≤ v5 ∧ v5 < 4) (hk : Z 100 7 ≤ v5) : TUQ Z v5 (-1) := by
  refine Or.inl ⟨rfl, fun i hp => ⟨hp.1, ?_⟩⟩
  have q := hp.2
  by_cases hq : 0 ≤ Z 104 i
  · have := (h.2 i hp.1 hq).1
    omega
  · omega
theorem TUQ_c {Z : ZT} {v5 v6 : Int} (h : LNO Z) (h7 : Z 100 7 ≤ 4) (h0 : 4 ≤ v5 ∧ v5 < 8) (hv : v6 = v5 - 4) (hn : Z 104 v6.toNat < 0) : TUQ Z v5 v6 := by
  refine Or.inr ⟨by omega, fun i hi hp hz => by omega, fun i hp => ?_⟩
  have q := hp.2
  by_cases hq : (i : Int) = v5 - 4
  · exact Or.inr (by omega)
  · refine Or.inl ⟨hp.1, ?_⟩
    by_cases hz : 0 ≤ Z 104 i
    · have := (h.2 i hp.1 hz).1
      omega
    · omega
theorem TUQ_d {Z : ZT} {v5 k : Int} (h : LNO Z) (h7 : Z 100 7 ≤ 4) (h0 : 4 ≤ v5 ∧ v5 < 8) (hv : k = v5 - 4) (hn : 0 ≤ Z 104 k.toNat) : TUQ Z v5 (-1) := by
  refine Or.inl ⟨rfl, fun i hp => ⟨hp.1, ?_⟩⟩
  have q := hp.2
  by_cases hz : 0 ≤ Z 104 i
  · have := (h.2 i hp.1 hz).1
    omega
  · have : (i : Int) ≠ k := fun e => hz (by rw [show i = k.toNat by omega]; exact hn)
    omega
theorem SOLP_m {e : NE} {sl : Nat → Nat → Nat → Int → Int} {N d c : Nat} {F R R' : Nat → Int} {P P' : Nat → Prop} (h : SOLP e sl N F R d c P) (hP : ∀ l, P' l → P l) (hR : R' = R) : SOLP e sl N F R' d c P' := by
  rw [hR]
  exact ⟨h.1, h.2.1, fun l hl hp => h.2.2 l hl (hP l hp)⟩
theorem SOLM_u {Z Z1 Z3 : ZT} {r N idx : Nat} {F : Nat → Int} {set v3 v4 v5 v5' v6 m x : Int} (h : SOLP (envH Z) (slM Z set) N F (Z1 r) (v3 - 1).toNat v4.toNat (TUM Z v5)) (hn : NEW (envH Z) N) (hwt : ∀ l : Nat, l < 4 → 0 ≤ Z 104 l → 0 ≤ Z 105 l ∧ 0 ≤ Z 106 l) (hq : TUQ Z v5 v6) (h6 : 0 ≤ v6) (hm : m = mkV (envH Z) (Z1 r) v3.toNat v4.toNat v6.toNat) (hx : x = slM Z set v3.toNat v4.toNat v6.toNat m) (hf : Z3 r = upZ Z1 r idx x r) (hi : idx = 144 * v3.toNat + 4 * v4.toNat + v6.toNat) (h3 : 1 ≤ v3) (h4 : 0 ≤ v4 ∧ v4 < N) (hN : N ≤ 36) (hv : v5' = v5 + 1) : SOLP (envH Z) (slM Z set) N F (Z3 r) (v3 - 1).toNat v4.toNat (TUM Z v5') := by
  have ed : (v3 - 1).toNat + 1 = v3.toNat := by omega
  rcases hq with ⟨g1, -⟩ | ⟨g1, g2, g3⟩
  · omega
  · subst hv
    refine SOLP_w (l := v6.toNat) (x := x) h hn hwt (fun s k i hk hj => ?_) ?_ (by omega) (by omega) g2 g3
    · rw [ed, hf, hi]
      by_cases hz : s = v3.toNat ∧ k = v4.toNat ∧ i = v6.toNat
      · obtain ⟨rfl, rfl, rfl⟩ := hz
        rw [up_eq, if_pos ⟨rfl, rfl, rfl⟩]
      · rw [if_neg hz, up_nk (fun e => hz (by omega))]
    · unfold FV
      rw [ed, ← hm]
      exact hx
theorem sl_m {Z Z1 : ZT} {set v3 v4 v6 m x : Int} (hx : x = slF (Z1 113) (Z1 114) (Z1 115) (Z1 116) (onM set) v3 v4 v6 m (Z1 100 19).toNat) (h : ∀ o, 101 ≤ o → o ≤ 121 → Z1 o = Z o) (h19 : Z1 100 19 = Z 100 19) (k3 : 0 ≤ v3) (k4 : 0 ≤ v4) (k6 : 0 ≤ v6) : x = slM Z set v3.toNat v4.toNat v6.toNat m := by
  unfold slM
  rw [show ((v3.toNat : Nat) : Int) = v3 by omega, show ((v4.toNat : Nat) : Int) = v4 by omega, show ((v6.toNat : Nat) : Int) = v6 by omega, hx, h19, h 113 (by omega) (by omega), h 114 (by omega) (by omega), h 115 (by omega) (by omega), h 116 (by omega) (by omega)]
theorem FTKM_w {Z Z' : ZT} {r idx : Nat} {e : NE} {F : Nat → Int} {c l l' x : Int} (h : FTK (Z r) e F c l) (f : Z' r = upZ Z r idx x r) (hi : idx = 4 * c.toNat + l.toNat) (hx : x = fiV e F c.toNat l.toNat) (h0 : 0 ≤ c) (hl : 0 ≤ l ∧ l ≤ 3) (hl' : l' = l + 1) : FTK (Z' r) e F c l' := by
  have up : ∀ k j : Nat, j < 4 → Z' r (4 * k + j) = if k = c.toNat ∧ j = l.toNat then x else Z r (4 * k + j) := fun k j hj => by
    rw [f, hi]
    by_cases hq : k = c.toNat ∧ j = l.toNat
    · obtain ⟨rfl, rfl⟩ := hq
      rw [up_eq, if_pos ⟨rfl, rfl⟩]
    · rw [if_neg hq, up_nk (fun e => hq (by omega))]
  refine ⟨fun k j hk hj => ?_, fun j hj => ?_⟩
  · rw [up k j hj, if_neg (by omega)]
    exact h.1 k j hk hj
  · rw [up c.toNat j (by omega)]
    by_cases hq : j = l.toNat
    · rw [if_pos ⟨rfl, hq⟩, hq]
      exact hx
    · rw [if_neg (fun z => hq z.2)]
      exact h.2 j (by omega)
theorem FTK_r {R R' : Nat → Int} {e : NE} {F : Nat → Int} {c l : Int} (hr : R' = R) (h : FTK R e F c l) : FTK R' e F c l := by
  rw [hr]
  exact h
def FW (Z : ZT) (k : Nat) : Int := fiV (envW Z) (Z 112) (k / 4) (k % 4)
theorem FW_at {Z : ZT} {c l : Nat} (hl : l < 4) : FW Z (4 * c + l) = fiV (envW Z) (Z 112) c l := by
  unfold FW
  rw [show (4 * c + l) / 4 = c by omega, show (4 * c + l) % 4 = l by omega]
theorem SOL_hall {Z Z1 : ZT} {N d : Nat} {R1 R : Nat → Int} {set c : Int} (h : SOL (envH Z1) (slM Z1 set) (Z1 100 35 * Z1 100 36).toNat R1 R d) (hf : FTK R1 (envW Z) (Z 112) c 0) (hc : (N : Int) ≤ c) (hN : (N : Int) = Z 100 0 * Z 100 1) (hu : ∀ o, 101 ≤ o → o ≤ 121 → Z1 o = Z o) (h35 : Z1 100 35 = Z 100 0) (h36 : Z1 100 36 = Z 100 1) (h2 : Z1 100 2 = Z 100 2) (h19 : Z1 100 19 = Z 100 19) : SOL (envW Z) (slM Z set) N (FW Z) R d := by
  rw [envHW_o hu h35 h36 h2, slM_o hu h19, h35, h36, ← hN, Int.toNat_natCast] at h
  refine ⟨fun k l hk hl => ?_, h.2⟩
  rw [FW_at hl, ← hf.1 k l (by omega) hl]
  exact h.1 k l hk hl
theorem TUQ_o {Z Z1 : ZT} {v5 v6 : Int} (h : Z1 104 = Z 104) (q : TUQ Z1 v5 v6) : TUQ Z v5 v6 := by
  unfold TUQ TUM at q ⊢
  rw [h] at q
  exact q
theorem CI_k {Z Z1 : ZT} (hI : CI Z1) (h : ∀ o, 101 ≤ o → o ≤ 121 → Z1 o = Z o) : ∀ l : Nat, l < 4 → 0 ≤ Z 104 l → 0 ≤ Z 105 l ∧ 0 ≤ Z 106 l := fun l _ _ => by
  have a := hI 105 l 0 80 rfl
  have b := hI 106 l 0 80 rfl
  rw [h 105 (by omega) (by omega)] at a
  rw [h 106 (by omega) (by omega)] at b
  exact ⟨a.1, b.1⟩
theorem tl_cells {Z : ZT} (hI : CI Z) : 4 ≤ Z 100 0 * Z 100 1 ∧ Z 100 0 * Z 100 1 ≤ 36 := by
  have w := hI 100 0 2 6 rfl
  have w' := hI 100 1 2 6 rfl
  exact mulB4 w.1 w.2 w'.1 w'.2
