/-! ===== the references while the constructors run; a new object's numbers ===== -/
def RE : List (Nat × Nat × Nat) := [(2, 3, 3), (1, 0, 2), (4, 3, 5), (1, 1, 4), (6, 0, 7), (8, 2, 9), (8, 3, 10), (8, 4, 11), (8, 5, 12), (8, 6, 13), (8, 7, 14), (8, 8, 15), (8, 9, 16), (8, 10, 17), (6, 2, 8), (1, 2, 6), (19, 2, 20), (19, 3, 21), (19, 4, 22), (19, 5, 23), (19, 6, 24), (19, 7, 25), (19, 8, 26), (19, 9, 27), (19, 10, 28), (18, 0, 19), (18, 1, 29), (18, 2, 30), (18, 5, 31), (18, 6, 32), (18, 7, 33), (18, 8, 34), (1, 3, 18), (37, 2, 38), (37, 3, 39), (37, 4, 40), (37, 5, 41), (37, 6, 42), (37, 7, 43), (37, 8, 44), (37, 9, 45), (37, 10, 46), (36, 0, 37), (36, 1, 47), (36, 2, 48), (36, 5, 49), (36, 6, 50), (36, 7, 51), (36, 8, 52), (35, 0, 36), (54, 2, 55), (54, 3, 56), (54, 4, 57), (54, 5, 58), (54, 6, 59), (54, 7, 60), (54, 8, 61), (54, 9, 62), (54, 10, 63), (53, 0, 54), (53, 1, 64), (53, 2, 65), (53, 5, 66), (53, 6, 67), (53, 7, 68), (53, 8, 69), (35, 1, 53), (1, 4, 35), (70, 2, 71), (1, 6, 70), (72, 2, 73), (1, 7, 72), (74, 2, 75), (1, 8, 74), (76, 2, 77), (1, 9, 76), (78, 0, 79), (1, 10, 78), (80, 2, 81), (80, 3, 82), (80, 4, 83), (80, 5, 84), (80, 6, 85), (1, 11, 80), (86, 0, 87), (1, 12, 86), (88, 0, 89), (88, 1, 90), (88, 2, 91), (88, 3, 92), (1, 13, 88), (93, 0, 94), (95, 0, 96), (95, 1, 97), (95, 2, 98), (95, 3, 99), (93, 2, 95), (1, 14, 93), (100, 4, 101), (100, 6, 102), (100, 9, 103), (100, 10, 104), (100, 11, 105), (100, 12, 106), (100, 13, 107), (100, 14, 108), (100, 15, 109), (100, 16, 110), (100, 17, 111), (100, 18, 112), (100, 20, 113), (100, 21, 114), (100, 22, 115), (100, 23, 116), (100, 26, 117), (100, 27, 118), (100, 28, 119), (100, 29, 120), (100, 31, 121), (100, 37, 122), (100, 38, 123), (100, 39, 124), (100, 40, 125), (100, 41, 126), (100, 42, 127), (100, 43, 128), (100, 44, 129), (100, 45, 130)]
def rlook (l : List (Nat × Nat × Nat)) (o k : Nat) : Nat := match l with
  | [] => 0
  | e :: t => bif (Nat.beq e.1 o && Nat.beq e.2.1 k) then e.2.2 else rlook t o k
def hasK (l : List (Nat × Nat × Nat)) (o k : Nat) : Bool := l.any (fun e => Nat.beq e.1 o && Nat.beq e.2.1 k)
def hasO (l : List (Nat × Nat × Nat)) (o : Nat) : Bool := l.any (fun e => Nat.beq e.1 o)
/-- the references behind the first i writings -/
def RT (i : Nat) : Nat → Nat → Nat := rlook (RE.take i)
theorem rlook_no {l : List (Nat × Nat × Nat)} {o k : Nat} (h : hasK l o k = false) : rlook l o k = 0 := by
  induction l with
  | nil => rfl
  | cons e t ih =>
    unfold hasK at h
    rw [List.any_cons, Bool.or_eq_false_iff] at h
    unfold rlook
    rw [h.1]
    exact ih h.2
theorem rlook_app {l : List (Nat × Nat × Nat)} {o k a : Nat} (h : hasK l o k = false) : rlook (l ++ [(o, k, a)]) = upR (rlook l) o k a := by
  funext p q
  induction l with
  | nil =>
    show (bif (Nat.beq o p && Nat.beq k q) then a else 0) = if p = o ∧ q = k then a else 0
    cases hb : (Nat.beq o p && Nat.beq k q) with
    | true =>
      rw [Bool.and_eq_true] at hb
      rw [if_pos ⟨(Nat.eq_of_beq_eq_true hb.1).symm, (Nat.eq_of_beq_eq_true hb.2).symm⟩]
      rfl
    | false =>
      rw [if_neg ?_]
      · rfl
      · rintro ⟨rfl, rfl⟩
        rw [Nat.beq_refl, Nat.beq_refl] at hb
        cases hb
  | cons e t ih =>
    unfold hasK at h
    rw [List.any_cons, Bool.or_eq_false_iff] at h
    have ih2 := ih h.2
    show (bif (Nat.beq e.1 p && Nat.beq e.2.1 q) then e.2.2 else rlook (t ++ [(o, k, a)]) p q) = if p = o ∧ q = k then a else (bif (Nat.beq e.1 p && Nat.beq e.2.1 q) then e.2.2 else rlook t p q)
    rw [ih2]
    unfold upR
    cases hb : (Nat.beq e.1 p && Nat.beq e.2.1 q) with
    | true =>
      by_cases hz : p = o ∧ q = k
      · obtain ⟨rfl, rfl⟩ := hz
        rw [h.1] at hb
        cases hb
      · rw [if_neg hz, if_neg hz]
    | false => rfl
theorem hasO_K {l : List (Nat × Nat × Nat)} {o k : Nat} (h : hasO l o = false) : hasK l o k = false := by
  induction l with
  | nil => rfl
  | cons e t ih =>
    unfold hasO at h
    rw [List.any_cons, Bool.or_eq_false_iff] at h
    unfold hasK
    rw [List.any_cons, h.1]
    exact ih h.2
theorem take_s {i : Nat} {e : Nat × Nat × Nat} (h : RE[i]? = some e) : RE.take (i + 1) = RE.take i ++ [e] := by
  rw [List.take_succ, h]
  rfl
theorem up_RT {R : Nat → Nat → Nat} {j o k a : Nat} (hR : R = RT (j - 1)) (h : (Nat.ble 1 j, RE[j - 1]?, hasK (RE.take (j - 1)) o k) = (true, some (o, k, a), false)) : upR R o k a = RT j := by
  subst hR
  have h1 := Nat.le_of_ble_eq_true (congrArg Prod.fst h)
  have h2 : RE[j - 1]? = some (o, k, a) := congrArg (fun x => x.2.1) h
  have h3 : hasK (RE.take (j - 1)) o k = false := congrArg (fun x => x.2.2) h
  obtain ⟨i, rfl⟩ : ∃ i, j = i + 1 := ⟨j - 1, by omega⟩
  rw [Nat.add_sub_cancel] at h2 h3 ⊢
  unfold RT
  rw [take_s h2]
  exact (rlook_app h3).symm
theorem zr_RT {R : Nat → Nat → Nat} {i o : Nat} (hR : R = RT i) (h : hasO (RE.take i) o = false) : zrR R o = RT i := by
  subst hR
  funext p q
  unfold zrR
  by_cases hp : p = o
  · rw [if_pos hp, hp]
    exact (rlook_no (hasO_K h)).symm
  · rw [if_neg hp]
theorem hasO_0 {l : List (Nat × Nat × Nat)} {o k : Nat} (h : hasO l o = false) : rlook l o k = 0 := rlook_no (hasO_K h)
theorem RT_at (o k : Nat) (ho : o < 131) (hk : k < 46) : RT 128 o k = R0 o k := by
  have h : (List.range 131).all (fun o => match R0l.getD o [] with
    | [] => !(hasO RE o)
    | a :: r => (List.range 46).all (fun k => Nat.beq (rlook RE o k) ((a :: r).getD k 0))) = true := by decide +kernel
  have ht : RE.take 128 = RE := List.take_of_length_le (by decide +kernel)
  have h1 := List.all_eq_true.mp h o (List.mem_range.mpr ho)
  unfold RT R0
  rw [ht]
  cases hr : R0l.getD o [] with
  | nil =>
    rw [hr] at h1
    have h2 : hasO RE o = false := by simpa using h1
    rw [hasO_0 h2]
    rfl
  | cons a r =>
    rw [hr] at h1
    exact Nat.eq_of_beq_eq_true (List.all_eq_true.mp h1 k (List.mem_range.mpr hk))
theorem hasK_big {l : List (Nat × Nat × Nat)} {o k : Nat} (h : l.all (fun e => Nat.ble e.1 130 && Nat.ble e.2.1 45) = true) (hb : 131 ≤ o ∨ 46 ≤ k) : hasK l o k = false := by
  induction l with
  | nil => rfl
  | cons e t ih =>
    rw [List.all_cons, Bool.and_eq_true, Bool.and_eq_true] at h
    have h1 := Nat.le_of_ble_eq_true h.1.1
    have h2 := Nat.le_of_ble_eq_true h.1.2
    unfold hasK
    rw [List.any_cons]
    have : (Nat.beq e.1 o && Nat.beq e.2.1 k) = false := by
      cases hq : (Nat.beq e.1 o && Nat.beq e.2.1 k) with
      | false => rfl
      | true =>
        rw [Bool.and_eq_true] at hq
        have q1 := Nat.eq_of_beq_eq_true hq.1
        have q2 := Nat.eq_of_beq_eq_true hq.2
        omega
    rw [this]
    exact ih h.2
theorem R0_big {o k : Nat} (hb : 131 ≤ o ∨ 46 ≤ k) : R0 o k = 0 := by
  have hl : ∀ l ∈ R0l, l.length ≤ 46 := by decide +kernel
  have hn : R0l.length = 131 := by decide +kernel
  unfold R0
  by_cases ho : o < R0l.length
  · have e : R0l.getD o [] = R0l[o] := by simp [List.getD, ho]
    have q := hl _ (e ▸ List.getElem_mem ho)
    have hk : 46 ≤ k := by omega
    simp only [List.getD]
    rw [List.getElem?_eq_none]
    · rfl
    · have q2 : (R0l[o]?.getD []).length ≤ 46 := q
      omega
  · have e : R0l[o]? = none := List.getElem?_eq_none (by omega)
    simp only [List.getD, e]
    rfl
theorem RT_all : RT 128 = R0 := by
  funext o k
  by_cases ho : o < 131 ∧ k < 46
  · exact RT_at o k ho.1 ho.2
  · rw [R0_big (by omega)]
    exact rlook_no (hasK_big (by decide +kernel) (by omega))
/-- may an object's numbers all be 0? -/
def zok (o : Nat) : Bool := match bndL.getD o (true, []) with
  | (_, bs) => bs.all (fun b => match b with
    | none => true
    | some q => decide (q.1 ≤ 0) && decide (0 ≤ q.2))
theorem zok_b {o k : Nat} {lo hi : Int} (h : zok o = true) (hb : bnd o k = some (lo, hi)) : lo ≤ 0 ∧ 0 ≤ hi := by
  unfold zok at h
  unfold bnd at hb
  have key : ∀ (bs : List (Option (Int × Int))), bs.all (fun b => match b with
    | none => true
    | some q => decide (q.1 ≤ 0) && decide (0 ≤ q.2)) = true → some (lo, hi) ∈ bs → lo ≤ 0 ∧ 0 ≤ hi := by
    intro bs hbs hm
    have := List.all_eq_true.mp hbs _ hm
    simpa using this
  rcases hq : bndL.getD o (true, []) with ⟨t, bs⟩
  rw [hq] at h hb
  rcases t with _ | _
  · refine key bs h ?_
    dsimp only at hb
    simp only [List.getD] at hb
    rcases hg : bs[k]? with _ | x
    · rw [hg] at hb
      cases hb
    · rw [hg] at hb
      have hb2 : x = some (lo, hi) := hb
      subst hb2
      exact List.mem_of_getElem? hg
  · rcases bs with _ | ⟨b, t⟩
    · cases hb
    · refine key _ h ?_
      have hb2 : b = some (lo, hi) := hb
      subst hb2
      exact List.mem_cons_self
/-- ranges of all objects but one -/
def CIx (b : Nat) (Z : ZT) : Prop := ∀ (o k : Nat) (lo hi : Int), o ≠ b → bnd o k = some (lo, hi) → lo ≤ Z o k ∧ Z o k ≤ hi
theorem ci_zr {Z : ZT} {o : Nat} (h : CI Z) (hz : zok o = true) : CI (zrZ Z o) := by
  intro p q lo hi hb
  unfold zrZ
  by_cases hq : p = o
  · rw [if_pos hq]
    exact zok_b (hq ▸ hz) hb
  · rw [if_neg hq]
    exact h p q lo hi hb
theorem cix_zr {Z : ZT} {b o : Nat} (h : CIx b Z) (hz : zok o = true) : CIx b (zrZ Z o) := by
  intro p q lo hi hp hb
  unfold zrZ
  by_cases hq : p = o
  · rw [if_pos hq]
    exact zok_b (hq ▸ hz) hb
  · rw [if_neg hq]
    exact h p q lo hi hp hb
theorem cix_of {Z : ZT} {b : Nat} (h : CI Z) : CIx b (zrZ Z b) := by
  intro p q lo hi hp hb
  unfold zrZ
  rw [if_neg hp]
  exact h p q lo hi hb
theorem cix_up {Z : ZT} {b o k : Nat} {a : Int} (h : CIx b Z) (ha : o ≠ b → ∀ lo hi : Int, bnd o k = some (lo, hi) → lo ≤ a ∧ a ≤ hi) : CIx b (upZ Z o k a) := by
  intro p q lo hi hp hb
  unfold upZ
  by_cases hq : p = o ∧ q = k
  · rw [if_pos hq]
    obtain ⟨rfl, rfl⟩ := hq
    exact ha hp lo hi hb
  · rw [if_neg hq]
    exact h p q lo hi hp hb
theorem cix_ci {Z : ZT} {b : Nat} (h : CIx b Z) (hb : ∀ (k : Nat) (lo hi : Int), bnd b k = some (lo, hi) → lo ≤ Z b k ∧ Z b k ≤ hi) : CI Z := by
  intro o k lo hi he
  by_cases ho : o = b
  · subst ho
    exact hb k lo hi he
  · exact h o k lo hi ho he
/-- a method that runs while the references are not yet all there -/
def preT (rt : Nat → Nat) (as : List PV) (σ : St) : Prop := match as with
  | .inr (.inr a) :: _ => σ.2.2 = RT (rt a)
  | _ => False
def pTV (S : List PV → List Nat) (as : List PV) (σ : St) (r : Option PV) (σ' : St) : Prop := ∃ Z' : ZT, r = none ∧ σ' = (σ.1, Z', σ.2.2) ∧ CI Z' ∧ kp (S as) σ.2.1 Z'
def rTV (n ci : Nat) (rt : Nat → Nat) (pre : List PV → ZT → Prop) (S : List PV → List Nat) : Sp := (n, ci, 0, fun as σ => preT rt as σ ∧ CI σ.2.1 ∧ pre as σ.2.1, pTV S)
def rTX (n ci : Nat) (rt : Nat → Nat) (b : List PV → Nat) (pre : List PV → ZT → Prop) (S : List PV → List Nat) : Sp := (n, ci, 0, fun as σ => preT rt as σ ∧ CIx (b as) σ.2.1 ∧ pre as σ.2.1, pTV S)
def rTI (n ci : Nat) (rt : Nat → Nat) (pre : List PV → ZT → Prop) (P : List PV → ZT → Int → Prop) : Sp := (n, ci, 0, fun as σ => preT rt as σ ∧ CI σ.2.1 ∧ pre as σ.2.1, pPI P)
def tX3 : Nat → Nat := fun b => match b with
  | 2 => 1
  | 4 => 3
  | _ => 0
def tX5 : Nat → Nat := fun b => match b with
  | 8 => 14
  | 19 => 25
  | 37 => 42
  | 54 => 59
  | _ => 0
def tX7 : Nat → Nat := fun b => match b with
  | 18 => 32
  | 36 => 49
  | 53 => 66
  | _ => 0
def tX1 : Nat → Nat := fun b => match b with
  | 80 => 83
  | _ => 0
def bX0 : Nat → Nat := fun b => match b with
  | 70 => 68
  | 72 => 70
  | 74 => 72
  | 76 => 74
  | _ => 0
def eX0 : Nat → Nat := fun b => match b with
  | 70 => 69
  | 72 => 71
  | 74 => 73
  | 76 => 75
  | _ => 0
def bX1 : Nat → Nat := fun b => match b with
  | 80 => 78
  | _ => 0
def eX1 : Nat → Nat := fun b => match b with
  | 80 => 83
  | _ => 0
def bX2 : Nat → Nat := fun b => match b with
  | 86 => 84
  | _ => 0
def eX2 : Nat → Nat := fun b => match b with
  | 86 => 85
  | _ => 0
def bX3 : Nat → Nat := fun b => match b with
  | 2 => 0
  | 4 => 2
  | _ => 0
def eX3 : Nat → Nat := fun b => match b with
  | 2 => 1
  | 4 => 3
  | _ => 0
def bX4 : Nat → Nat := fun b => match b with
  | 78 => 76
  | _ => 0
def eX4 : Nat → Nat := fun b => match b with
  | 78 => 77
  | _ => 0
def bX5 : Nat → Nat := fun b => match b with
  | 8 => 5
  | 19 => 16
  | 37 => 33
  | 54 => 50
  | _ => 0
def eX5 : Nat → Nat := fun b => match b with
  | 8 => 14
  | 19 => 25
  | 37 => 42
  | 54 => 59
  | _ => 0
def bX6 : Nat → Nat := fun b => match b with
  | 6 => 4
  | _ => 0
def eX6 : Nat → Nat := fun b => match b with
  | 6 => 15
  | _ => 0
def bX7 : Nat → Nat := fun b => match b with
  | 18 => 16
  | 36 => 33
  | 53 => 50
  | _ => 0
def eX7 : Nat → Nat := fun b => match b with
  | 18 => 32
  | 36 => 49
  | 53 => 66
  | _ => 0
def bX8 : Nat → Nat := fun b => match b with
  | 93 => 91
  | _ => 0
def eX8 : Nat → Nat := fun b => match b with
  | 93 => 97
  | _ => 0
def bX9 : Nat → Nat := fun b => match b with
  | 88 => 86
  | 95 => 92
  | _ => 0
def eX9 : Nat → Nat := fun b => match b with
  | 88 => 90
  | 95 => 96
  | _ => 0
def bX10 : Nat → Nat := fun b => match b with
  | 1 => 0
  | _ => 0
def eX10 : Nat → Nat := fun b => match b with
  | 1 => 98
  | _ => 0
def bX11 : Nat → Nat := fun b => match b with
  | 100 => 98
  | _ => 0
def eX11 : Nat → Nat := fun b => match b with
  | 100 => 128
  | _ => 0
