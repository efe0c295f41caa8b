/-! ===== times: what a step's ends are ===== -/
/-- what lies beside, owners, paces, walk -/
abbrev TE : Type := (Nat → Nat → Int) × (Nat → Int) × (Nat → Int) × Int
def TE.nxt (e : TE) : Nat → Nat → Int := e.1
def TE.ow (e : TE) : Nat → Int := e.2.1
def TE.pc (e : TE) : Nat → Int := e.2.2.1
def TE.wk (e : TE) : Int := e.2.2.2
/-- the greater of two, as both sides take it -/
def mx2 (a b : Int) : Int := if b ≤ a then a else b
theorem mx2_a {a b c : Int} : mx2 (mx2 a b) c = mx2 a (mx2 b c) := by
  unfold mx2
  (repeat' split) <;> omega
theorem mx2_0 {a : Int} (h : 0 ≤ a) : mx2 a 0 = a := by
  unfold mx2
  rw [if_pos h]
/-- when the notes of a cell's neighbours are there: of the first k sides -/
def cmF (e : TE) (E : Nat → Int) (s c : Nat) : Nat → Int
  | 0 => 0
  | k + 1 => if 0 ≤ e.nxt c (k + 1) ∧ e.nxt c (k + 1) < 36 then mx2 (cmF e E s c k) (w32 (E (36 * (s - 1) + (e.nxt c (k + 1)).toNat) + (if e.ow (e.nxt c (k + 1)).toNat = e.ow c then 0 else e.wk))) else cmF e E s c k
def enF (e : TE) (E F : Nat → Int) (s c : Nat) : Int := w32 ((if 1 < s then mx2 (F (e.ow c).toNat) (cmF e E s c 4) else F (e.ow c).toNat) + e.pc (e.ow c).toNat)
/-- one cell of a step -/
def tsW (e : TE) (q : (Nat → Int) × (Nat → Int)) (s c : Nat) : (Nat → Int) × (Nat → Int) := (fun k => if k = 36 * s + c then enF e q.1 q.2 s c else q.1 k, fun k => if k = (e.ow c).toNat then enF e q.1 q.2 s c else q.2 k)
def tsC (e : TE) (q : (Nat → Int) × (Nat → Int)) (s : Nat) : Nat → (Nat → Int) × (Nat → Int)
  | 0 => q
  | c + 1 => tsW e (tsC e q s c) s c
/-- ends and free minutes behind d steps -/
def tsS (e : TE) (N : Nat) : Nat → (Nat → Int) × (Nat → Int)
  | 0 => (fun _ => 0, fun _ => 0)
  | d + 1 => tsC e (tsS e N d) (d + 1) N
/-- a row of ends up to step d and cell c of the next -/
def AG (row E : Nat → Int) (N d c : Nat) : Prop := ∀ s k : Nat, s ≤ d ∧ k < N ∨ s = d + 1 ∧ k < c → row (36 * s + k) = E (36 * s + k)
def FG (row F : Nat → Int) : Prop := ∀ p : Nat, p < 6 → row p = F p
theorem AG_S {row E : Nat → Int} {N d d' : Nat} (h : AG row E N d N) (hd : d' = d + 1) : AG row E N d' 0 := fun s k hk => by
  subst hd
  exact h s k (by omega)
theorem AG_s {row row' : Nat → Int} {N d c : Nat} {a : Int} {e : TE} {q : (Nat → Int) × (Nat → Int)} (h : AG row (tsC e q (d + 1) c).1 N d c) (hr : ∀ k : Nat, row' k = if k = 36 * (d + 1) + c then a else row k) (ha : a = enF e (tsC e q (d + 1) c).1 (tsC e q (d + 1) c).2 (d + 1) c) (hN : N ≤ 36) (hc : c < 36) : AG row' (tsC e q (d + 1) (c + 1)).1 N d (c + 1) := fun s k hk => by
  rw [hr]
  show _ = if 36 * s + k = 36 * (d + 1) + c then enF e (tsC e q (d + 1) c).1 (tsC e q (d + 1) c).2 (d + 1) c else (tsC e q (d + 1) c).1 (36 * s + k)
  by_cases hq : 36 * s + k = 36 * (d + 1) + c
  · rw [if_pos hq, if_pos hq]
    exact ha
  · rw [if_neg hq, if_neg hq]
    exact h s k (by omega)
theorem FG_s {row row' : Nat → Int} {d c p : Nat} {a : Int} {e : TE} {q : (Nat → Int) × (Nat → Int)} (h : FG row (tsC e q (d + 1) c).2) (hr : ∀ k : Nat, row' k = if k = p then a else row k) (hp : p = (e.ow c).toNat) (ha : a = enF e (tsC e q (d + 1) c).1 (tsC e q (d + 1) c).2 (d + 1) c) : FG row' (tsC e q (d + 1) (c + 1)).2 := fun k hk => by
  rw [hr]
  show _ = if k = (e.ow c).toNat then enF e (tsC e q (d + 1) c).1 (tsC e q (d + 1) c).2 (d + 1) c else (tsC e q (d + 1) c).2 k
  subst hp
  by_cases hq : k = (e.ow c).toNat
  · rw [if_pos hq, if_pos hq]
    exact ha
  · rw [if_neg hq, if_neg hq]
    exact h k hk
/-- only the last step's ends are looked at -/
theorem cmF_eq {e : TE} {E E' : Nat → Int} {s c N : Nat} (hn : ∀ k : Nat, 1 ≤ k → k ≤ 4 → 0 ≤ e.nxt c k → e.nxt c k < N) (h : ∀ k : Nat, k < N → E (36 * (s - 1) + k) = E' (36 * (s - 1) + k)) : ∀ k : Nat, k ≤ 4 → cmF e E s c k = cmF e E' s c k
  | 0, _ => rfl
  | k + 1, hk => by
    have ih := cmF_eq (e := e) hn h k (by omega)
    show (if _ then _ else _) = (if _ then _ else _)
    by_cases hq : 0 ≤ e.nxt c (k + 1) ∧ e.nxt c (k + 1) < 36
    · have q := hn (k + 1) (by omega) hk hq.1
      rw [if_pos hq, if_pos hq, ih, h (e.nxt c (k + 1)).toNat (by omega)]
    · rw [if_neg hq, if_neg hq, ih]
/-- steps behind leave the ends ahead as they are -/
theorem tsC_st (e : TE) (q : (Nat → Int) × (Nat → Int)) (s : Nat) : ∀ (c j : Nat), j < 36 * s → (tsC e q s c).1 j = q.1 j
  | 0, _, _ => rfl
  | c + 1, j, hj => by
    show (if j = 36 * s + c then _ else (tsC e q s c).1 j) = _
    rw [if_neg (by omega)]
    exact tsC_st e q s c j hj
theorem tsS_st (e : TE) (N : Nat) {d j : Nat} (hj : j < 36 * (d + 1)) : ∀ n : Nat, (tsS e N (d + n)).1 j = (tsS e N d).1 j
  | 0 => rfl
  | n + 1 => by
    show (tsC e (tsS e N (d + n)) (d + n + 1) N).1 j = _
    rw [tsC_st e _ _ N j (by omega)]
    exact tsS_st e N hj n
theorem tsS_12 (e : TE) (N : Nat) {d j : Nat} (hj : j < 36 * (d + 1)) (hd : d ≤ 12) : (tsS e N 12).1 j = (tsS e N d).1 j := by
  have q := tsS_st e N hj (12 - d)
  rw [show d + (12 - d) = 12 by omega] at q
  exact q
theorem tsS_lo (e : TE) (N : Nat) {j : Nat} (hj : j < 36) : ∀ d : Nat, (tsS e N d).1 j = 0
  | 0 => rfl
  | d + 1 => by
    show (tsC e (tsS e N d) (d + 1) N).1 j = 0
    rw [tsC_st e _ _ N j (by omega)]
    exact tsS_lo e N hj d
/-- two sides' words for the same -/
def TQ (e e' : TE) : Prop := e.nxt = e'.nxt ∧ (∀ k : Nat, k < 36 → e.ow k = e'.ow k ∧ 0 ≤ e.ow k ∧ e.ow k ≤ 5) ∧ (∀ k : Nat, k < 6 → e.pc k = e'.pc k) ∧ e.wk = e'.wk
theorem cmF_q {e e' : TE} (h : TQ e e') {E : Nat → Int} {s c : Nat} (hc : c < 36) : ∀ k : Nat, cmF e E s c k = cmF e' E s c k
  | 0 => rfl
  | k + 1 => by
    have ih := cmF_q h (E := E) (s := s) hc k
    obtain ⟨h1, h2, h3, h4⟩ := h
    show (if _ then _ else _) = (if _ then _ else _)
    rw [← h1]
    by_cases hq : 0 ≤ e.nxt c (k + 1) ∧ e.nxt c (k + 1) < 36
    · rw [if_pos hq, if_pos hq, ih, (h2 (e.nxt c (k + 1)).toNat (by omega)).1, (h2 c hc).1, h4]
    · rw [if_neg hq, if_neg hq, ih]
theorem enF_q {e e' : TE} (h : TQ e e') {E F : Nat → Int} {s c : Nat} (hc : c < 36) : enF e E F s c = enF e' E F s c := by
  have q := cmF_q h (E := E) (s := s) hc 4
  obtain ⟨h1, h2, h3, h4⟩ := h
  have r := h2 c hc
  unfold enF
  rw [q, h3 _ (by omega), r.1]
theorem tsC_q {e e' : TE} (h : TQ e e') {q : (Nat → Int) × (Nat → Int)} {s : Nat} : ∀ c : Nat, c ≤ 36 → tsC e q s c = tsC e' q s c
  | 0, _ => rfl
  | c + 1, hc => by
    show tsW e (tsC e q s c) s c = tsW e' (tsC e' q s c) s c
    rw [tsC_q h c (by omega)]
    unfold tsW
    rw [enF_q h (by omega), (h.2.1 c (by omega)).1]
theorem tsS_q {e e' : TE} (h : TQ e e') {N : Nat} (hN : N ≤ 36) : ∀ d : Nat, tsS e N d = tsS e' N d
  | 0 => rfl
  | d + 1 => by
    show tsC e (tsS e N d) (d + 1) N = tsC e' (tsS e' N d) (d + 1) N
    rw [tsS_q h hN d]
    exact tsC_q h N hN
/-- the last of the first n -/
def lsF (f : Nat → Int) : Nat → Int
  | 0 => 0
  | n + 1 => mx2 (lsF f n) (f n)
theorem lsF_eq {f g : Nat → Int} : ∀ n : Nat, (∀ k : Nat, k < n → f k = g k) → lsF f n = lsF g n
  | 0, _ => rfl
  | n + 1, h => by
    show mx2 (lsF f n) (f n) = mx2 (lsF g n) (g n)
    rw [lsF_eq n (fun k hk => h k (by omega)), h n (by omega)]
/-- what when tells -/
def whF (e : TE) (N : Nat) (s c : Int) : Int := if c < 0 then lsF (fun k => (tsS e N 12).1 (36 * s.toNat + k)) N else (tsS e N 12).1 (36 * s.toNat + c.toNat)
theorem lsF_s {f : Nat → Int} {v v' x y z : Int} (hx : x = lsF f v.toNat) (hy : y = f v.toNat) (hz : y ≤ x ∧ z = x ∨ x < y ∧ z = y) (h0 : 0 ≤ v) (hv : v' = v + 1) : z = lsF f v'.toNat := by
  rw [show v'.toNat = v.toNat + 1 by omega]
  show z = mx2 (lsF f v.toNat) (f v.toNat)
  unfold mx2
  rw [← hx, ← hy]
  split <;> omega
theorem cmF_s {e : TE} {E : Nat → Int} {s c : Nat} {v v' x n y z : Int} (hx : x = cmF e E s c (v - 1).toNat) (hn : n = e.nxt c v.toNat) (hr : 0 ≤ n ∧ n < 36) (hy : y = w32 (E (36 * (s - 1) + n.toNat) + (if e.ow n.toNat = e.ow c then 0 else e.wk))) (hz : y ≤ x ∧ z = x ∨ x < y ∧ z = y) (h0 : 1 ≤ v) (hv : v' = v + 1) : z = cmF e E s c (v' - 1).toNat := by
  rw [show (v' - 1).toNat = (v - 1).toNat + 1 by omega]
  show z = if _ then _ else _
  rw [show (v - 1).toNat + 1 = v.toNat by omega, ← hn, if_pos hr, ← hx, ← hy]
  unfold mx2
  split <;> omega
theorem cmF_n {e : TE} {E : Nat → Int} {s c : Nat} {v v' x n : Int} (hx : x = cmF e E s c (v - 1).toNat) (hn : n = e.nxt c v.toNat) (hr : ¬(0 ≤ n ∧ n < 36)) (h0 : 1 ≤ v) (hv : v' = v + 1) : x = cmF e E s c (v' - 1).toNat := by
  rw [show (v' - 1).toNat = (v - 1).toNat + 1 by omega]
  show x = if _ then _ else _
  rw [show (v - 1).toNat + 1 = v.toNat by omega, ← hn, if_neg hr]
  exact hx
theorem gt_s {P : Nat → Prop} {v v' : Int} (h : ∀ l : Nat, (l : Int) < v → P l) (hx : P v.toNat) (h0 : 0 ≤ v) (hv : v' = v + 1) : ∀ l : Nat, (l : Int) < v' → P l := by
  intro l hl
  by_cases hq : l = v.toNat
  · rw [hq]
    exact hx
  · exact h l (by omega)
/-- the class's words, the model's -/
def envC (Z : ZT) : TE := ⟨fun c s => nx (Z 2 0) (Z 2 1) (Z 18 3) c s, Z 89, Z 87, Z 86 1⟩
def envB (Z : ZT) : TE := ⟨fun c s => nx (Z 100 0) (Z 100 1) (Z 100 2) c s, Z 129, Z 119, Z 100 3⟩
def envM (Z : ZT) : TE := ⟨fun c s => nx (Z 100 0) (Z 100 1) (Z 100 2) c s, Z 120, Z 119, Z 100 3⟩
/-- what the class has kept of the ends is right -/
def TM (Z : ZT) : Prop := (∀ c : Nat, c < 36 → Z 90 c = 0) ∧ AG (Z 90) (tsS (envC Z) (Z 2 2).toNat (Z 88 4).toNat).1 (Z 2 2).toNat (Z 88 4).toNat 0 ∧ FG (Z 91) (tsS (envC Z) (Z 2 2).toNat (Z 88 4).toNat).2
def OWR (Z : ZT) : Prop := ∀ k : Nat, k < 36 → 0 ≤ Z 89 k ∧ Z 89 k ≤ 5
theorem TM_0 {Z : ZT} (h : ∀ c : Nat, c < 36 → Z 90 c = 0) (hd : Z 88 4 = 0) (hf : FL Z 91 0 6) (hN : Z 2 2 ≤ 36) : TM Z := by
  refine ⟨h, ?_, ?_⟩
  · rw [hd]
    intro s k hk
    have e : s = 0 := by omega
    subst e
    show Z 90 (36 * 0 + k) = 0
    rw [show 36 * 0 + k = k by omega]
    exact h k (by omega)
  · rw [hd]
    exact fun p hp => hf p (by omega)
theorem envC_o {Z Z' : ZT} (h2 : Z' 2 0 = Z 2 0) (h3 : Z' 2 1 = Z 2 1) (h18 : Z' 18 3 = Z 18 3) (h89 : Z' 89 = Z 89) (h87 : Z' 87 = Z 87) (h86 : Z' 86 1 = Z 86 1) : envC Z' = envC Z := by
  unfold envC
  rw [h2, h3, h18, h89, h87, h86]
