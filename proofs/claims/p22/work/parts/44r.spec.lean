/-! ===== what a text says, as functions of its bytes ===== -/
/-- the class's bytes, -1 behind the end -/
def bC (Z : ZT) : Int → Int := fun k => if 0 ≤ k ∧ k < Z 6 1 ∧ k < 160 then Z 7 k.toNat else -1
theorem bC_eq {Z Z' : ZT} (h1 : Z' 7 = Z 7) (h2 : Z' 6 1 = Z 6 1) : bC Z' = bC Z := by
  unfold bC
  rw [h1, h2]
theorem bC_kp {S : List Nat} {Z Z' : ZT} (h : kp S Z Z') (hS : (avo S 7 && (!(S.elem 6) && (!(S.elem 2006)))) = true) : bC Z' = bC Z := by
  rw [Bool.and_eq_true, Bool.and_eq_true] at hS
  obtain ⟨h1, h2, h3⟩ := hS
  exact bC_eq (kp_av h h1 (by decide)) (h 6 1 (by decide) (by simpa using h2) (by simpa using h3))
theorem bC_up {Z Z' : ZT} {o k : Nat} {a : Int} (hu : Z' = upZ Z o k a) (h7 : o ≠ 7) (h6 : o = 6 → k ≠ 1) : bC Z' = bC Z := by
  refine bC_eq (up_o hu (fun e => h7 e.symm)) ?_
  rw [hu]
  refine if_neg (fun z => ?_)
  exact h6 z.1.symm z.2.symm
def plC (Z : ZT) : Int → Int := fun l => if 0 ≤ l ∧ l ≤ 3 then Z 10 l.toNat else -1
theorem pl_eq {Z Z' : ZT} (h : Z' 10 = Z 10) : plC Z' = plC Z := by
  unfold plC
  rw [h]
theorem pl_kp {S : List Nat} {Z Z' : ZT} (h : kp S Z Z') (hS : avo S 10 = true) : plC Z' = plC Z := pl_eq (kp_av h hS (by decide))
theorem pl_up {Z Z' : ZT} {o k : Nat} {a : Int} (hu : Z' = upZ Z o k a) (h : (10 : Nat) ≠ o) : plC Z' = plC Z := pl_eq (up_o hu h)
theorem pl_ld {Z : ZT} {b : Int → Int} {x y p : Int} (h : y = Z 10 (w32 (x - 97)).toNat) (hx : x = b p) (hr : 97 ≤ x ∧ x ≤ 100) : y = plC Z (b p - 97) := by
  rw [w32_id (by omega) (by omega)] at h
  unfold plC
  rw [if_pos (by omega), h, hx]
/-- bytes of 8 bits -/
def BYT (b : Int → Int) : Prop := ∀ k, -1 ≤ b k ∧ b k ≤ 255
theorem AH_bC {Z Z0 : ZT} {x : Int} (hb : bC Z = bC Z0) (h : x = AH Z) : x = bC Z0 (Z 6 3) := by
  rw [h, ← hb]
  rfl
theorem bC_neg {Z : ZT} {k : Int} (h : Z 6 1 ≤ k ∨ k < 0 ∨ 160 ≤ k) : bC Z k = -1 := if_neg (by omega)
theorem bC_pos {Z : ZT} {k : Int} (h : bC Z k ≠ -1) : 0 ≤ k ∧ k < Z 6 1 ∧ k < 160 := by
  by_cases hq : 0 ≤ k ∧ k < Z 6 1 ∧ k < 160
  · exact hq
  · exact absurd (if_neg hq) h
def sdOf (c : Int) : Int := if c = 110 then 1 else if c = 101 then 2 else if c = 115 then 3 else if c = 119 then 4 else 0
theorem sdOf_r (c : Int) : 0 ≤ sdOf c ∧ sdOf c ≤ 4 := by
  unfold sdOf
  (repeat' split) <;> omega
/-- a run of figures: its end, its number -/
def dgE (b : Int → Int) : Nat → Int → Int
  | 0, p => p
  | n + 1, p => if 48 ≤ b p ∧ b p ≤ 57 then dgE b n (p + 1) else p
def dgV (b : Int → Int) : Nat → Int → Int → Int
  | 0, _, v => v
  | n + 1, p, v => if 48 ≤ b p ∧ b p ≤ 57 then dgV b n (p + 1) (10 * v + b p - 48) else v
theorem dgE_d {b : Int → Int} {k : Nat} {p : Int} (h : 48 ≤ b p ∧ b p ≤ 57) : dgE b (k + 1) p = dgE b k (p + 1) := by
  show (if 48 ≤ b p ∧ b p ≤ 57 then dgE b k (p + 1) else p) = _
  rw [if_pos h]
theorem dgE_n {b : Int → Int} {k : Nat} {p : Int} (h : ¬(48 ≤ b p ∧ b p ≤ 57)) : dgE b (k + 1) p = p := by
  show (if 48 ≤ b p ∧ b p ≤ 57 then dgE b k (p + 1) else p) = _
  rw [if_neg h]
theorem dgV_d {b : Int → Int} {k : Nat} {p v : Int} (h : 48 ≤ b p ∧ b p ≤ 57) : dgV b (k + 1) p v = dgV b k (p + 1) (10 * v + b p - 48) := by
  show (if 48 ≤ b p ∧ b p ≤ 57 then dgV b k (p + 1) (10 * v + b p - 48) else v) = _
  rw [if_pos h]
theorem dgV_n {b : Int → Int} {k : Nat} {p v : Int} (h : ¬(48 ≤ b p ∧ b p ≤ 57)) : dgV b (k + 1) p v = v := by
  show (if 48 ≤ b p ∧ b p ≤ 57 then dgV b k (p + 1) (10 * v + b p - 48) else v) = _
  rw [if_neg h]
def nuE (b : Int → Int) (p : Int) : Int := dgE b 200 p
def nuV (b : Int → Int) (p : Int) : Int := dgV b 200 p 0
abbrev nuOK (b : Int → Int) (p m : Int) : Prop := (48 ≤ b p ∧ b p ≤ 57) ∧ b p ≠ 48 ∧ nuV b p ≤ m
theorem dgV_nn (b : Int → Int) : ∀ (n : Nat) (p v : Int), 0 ≤ v → 0 ≤ dgV b n p v
  | 0, _, _, h => h
  | n + 1, p, v, h => by
    unfold dgV
    split
    · exact dgV_nn b n _ _ (by omega)
    · exact h
/-- the class, in the midst of a number -/
def NI (b : Int → Int) (p0 p v m : Int) : Prop := ∃ n : Nat, ∃ V : Int, (n : Int) = 200 - (p - p0) ∧ 0 ≤ V ∧ (v = V ∧ V ≤ m ∨ v = m + 1 ∧ m < V) ∧ dgE b n p = nuE b p0 ∧ dgV b n p V = nuV b p0 ∧ p0 ≤ p ∧ (p0 < p → 48 ≤ b p0 ∧ b p0 ≤ 57)
theorem NI_0 {b : Int → Int} {p m v : Int} (hm : 0 ≤ m) (hv : v = 0) : NI b p p v m := ⟨200, 0, by omega, by decide, Or.inl ⟨hv, hm⟩, rfl, rfl, by omega, fun h => by omega⟩
theorem NI_s {b : Int → Int} {p0 p p' v v' m : Int} (h : NI b p0 p v m) (hd : 48 ≤ b p ∧ b p ≤ 57) (hp : p ≤ p0 + 199) (hp' : p' = p + 1) (hm : 0 ≤ m) (hv : v' = m + 1 ∧ m + 1 ≤ 10 * v + b p - 48 ∨ v' = 10 * v + b p - 48 ∧ 10 * v + b p - 48 ≤ m + 1) : NI b p0 p' v' m := by
  obtain ⟨n, V, hn, hV, hvV, he, hw, hle, h0⟩ := h
  subst hp'
  obtain ⟨k, rfl⟩ : ∃ k, n = k + 1 := ⟨n - 1, by omega⟩
  refine ⟨k, 10 * V + b p - 48, by omega, by omega, by omega, ?_, ?_, by omega, fun _ => ?_⟩
  · rw [← he, dgE_d hd]
  · rw [← hw, dgV_d hd]
  · by_cases hq : p0 < p
    · exact h0 hq
    · have : p = p0 := by omega
      rw [← this]
      exact hd
theorem NI_e {b : Int → Int} {p0 p v m : Int} (h : NI b p0 p v m) (hd : ¬(48 ≤ b p ∧ b p ≤ 57)) (hp : p ≤ p0 + 199) : p = nuE b p0 ∧ (v = nuV b p0 ∧ nuV b p0 ≤ m ∨ v = m + 1 ∧ m < nuV b p0) ∧ (p0 < p ↔ 48 ≤ b p0 ∧ b p0 ≤ 57) := by
  obtain ⟨n, V, hn, hV, hvV, he, hw, hle, h0⟩ := h
  obtain ⟨k, rfl⟩ : ∃ k, n = k + 1 := ⟨n - 1, by omega⟩
  rw [dgE_n hd] at he
  rw [dgV_n hd] at hw
  refine ⟨he, by rw [← hw]; exact hvV, fun hq => h0 hq, fun hq => ?_⟩
  by_cases hz : p0 < p
  · exact hz
  · have : p = p0 := by omega
    subst this
    exact absurd hq hd
/-- a name: letter, side, where the side ends, may it stand there, number, end -/
abbrev nmS (b : Int → Int) (p : Int) : Int := sdOf (b (p + 1))
abbrev nmQ (b : Int → Int) (p : Int) : Int := if 0 < nmS b p then p + 2 else p + 1
abbrev nmOK (b : Int → Int) (pl : Int → Int) (p : Int) : Prop := (97 ≤ b p ∧ b p ≤ 100) ∧ (b (nmQ b p) = 39 → nmS b p = 0 ∧ 0 ≤ pl (b p - 97))
def nmV (b : Int → Int) (p : Int) : Int := if b (nmQ b p) = 39 then b p - 97 + 32 else b p - 97 + 4 * nmS b p
def nmE (b : Int → Int) (p : Int) : Int := if b (nmQ b p) = 39 then nmQ b p + 1 else nmQ b p
/-- a term: sign, behind it, start of its name, factor, behind the first name, names, end, the first wrong byte -/
def tmS (b : Int → Int) (p : Int) : Int := if b p = 45 then -1 else 1
def tmP (b : Int → Int) (p : Int) : Int := if b p = 45 ∨ b p = 43 then p + 1 else p
def tmQ (b : Int → Int) (p : Int) : Int := if 48 ≤ b (tmP b p) ∧ b (tmP b p) ≤ 57 then nuE b (tmP b p) else tmP b p
def tmF (b : Int → Int) (p : Int) : Int := tmS b p * (if 48 ≤ b (tmP b p) ∧ b (tmP b p) ≤ 57 then nuV b (tmP b p) else 1)
def tmR (b : Int → Int) (p : Int) : Int := nmE b (tmQ b p)
def tmN (b : Int → Int) (p : Int) : Int := nmV b (tmQ b p)
def tmM (b : Int → Int) (p : Int) : Int := if b (tmR b p) = 46 then nmV b (tmR b p + 1) else -1
def tmE (b : Int → Int) (p : Int) : Int := if b (tmR b p) = 46 then nmE b (tmR b p + 1) else tmR b p
def tmB (b pl : Int → Int) (p : Int) : Int := if (48 ≤ b (tmP b p) ∧ b (tmP b p) ≤ 57) ∧ ¬nuOK b (tmP b p) 999 then tmP b p else if ¬nmOK b pl (tmQ b p) then tmQ b p else if b (tmR b p) = 46 ∧ ¬nmOK b pl (tmR b p + 1) then tmR b p + 1 else -1
/-- the terms of a line: the first wrong byte, the end, how many -/
def tsC (b pl : Int → Int) : Nat → Int → Int → Int × Int × Int
  | 0, p, j => (-1, p, j)
  | n + 1, p, j => if tmB b pl p ≠ -1 then (tmB b pl p, p, j) else if b (tmE b p) = 43 ∨ b (tmE b p) = 45 then tsC b pl n (tmE b p) (j + 1) else (-1, tmE b p, j + 1)
def tp (b : Int → Int) (p : Int) : Nat → Int
  | 0 => p
  | j + 1 => tmE b (tp b p j)
