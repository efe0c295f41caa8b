/-! ===== the plan: answers alike ===== -/
theorem KFp_0 {Z : ZT} : KF Z 0 = Z 100 7 := by
  unfold KF
  rw [if_pos (by decide)]
theorem KFp_7 {Z : ZT} {l : Nat} (h : l < 4) : KF Z (7 + (l : Int)) = Z 103 l := by
  unfold KF
  rw [if_neg (by omega), if_neg (by omega), if_neg (by omega), if_neg (by omega), if_pos (by omega), show ((7 : Int) + l - 7).toNat = l by omega]
theorem KFp_11 {Z : ZT} {l : Nat} (h : l < 4) : KF Z (11 + (l : Int)) = Z 104 l := by
  unfold KF
  rw [if_neg (by omega), if_neg (by omega), if_neg (by omega), if_neg (by omega), if_neg (by omega), if_pos (by omega), show ((11 : Int) + l - 11).toNat = l by omega]
theorem KFp_15 {Z : ZT} {l : Nat} (h : l < 4) : KF Z (15 + (l : Int)) = Z 105 l := by
  unfold KF
  rw [if_neg (by omega), if_neg (by omega), if_neg (by omega), if_neg (by omega), if_neg (by omega), if_neg (by omega), if_pos (by omega), show ((15 : Int) + l - 15).toNat = l by omega]
theorem KFp_19 {Z : ZT} {l : Nat} (h : l < 4) : KF Z (19 + (l : Int)) = Z 106 l := by
  unfold KF
  rw [if_neg (by omega), if_neg (by omega), if_neg (by omega), if_neg (by omega), if_neg (by omega), if_neg (by omega), if_neg (by omega), if_pos (by omega), show ((19 : Int) + l - 19).toNat = l by omega]
theorem KFp_23 {Z : ZT} {l : Nat} (h : l < 4) : KF Z (23 + (l : Int)) = Z 107 l := by
  unfold KF
  rw [if_neg (by omega), if_neg (by omega), if_neg (by omega), if_neg (by omega), if_neg (by omega), if_neg (by omega), if_neg (by omega), if_neg (by omega), if_pos (by omega), show ((23 : Int) + l - 23).toNat = l by omega]
theorem KFp_27 {Z : ZT} {l : Nat} (h : l < 4) : KF Z (27 + (l : Int)) = Z 108 l := by
  unfold KF
  rw [if_neg (by omega), if_neg (by omega), if_neg (by omega), if_neg (by omega), if_neg (by omega), if_neg (by omega), if_neg (by omega), if_neg (by omega), if_neg (by omega), if_pos (by omega), show ((27 : Int) + l - 27).toNat = l by omega]
theorem KFp_31 {Z : ZT} {l : Nat} (h : l < 80) : KF Z (31 + (l : Int)) = Z 109 l := by
  unfold KF
  rw [if_neg (by omega), if_neg (by omega), if_neg (by omega), if_neg (by omega), if_neg (by omega), if_neg (by omega), if_neg (by omega), if_neg (by omega), if_neg (by omega), if_neg (by omega), if_pos (by omega), show ((31 : Int) + l - 31).toNat = l by omega]
theorem KFp_111 {Z : ZT} {l : Nat} (h : l < 80) : KF Z (111 + (l : Int)) = Z 110 l := by
  unfold KF
  rw [if_neg (by omega), if_neg (by omega), if_neg (by omega), if_neg (by omega), if_neg (by omega), if_neg (by omega), if_neg (by omega), if_neg (by omega), if_neg (by omega), if_neg (by omega), if_neg (by omega), if_pos (by omega), show ((111 : Int) + l - 111).toNat = l by omega]
theorem KFp_191 {Z : ZT} {l : Nat} (h : l < 80) : KF Z (191 + (l : Int)) = Z 111 l := by
  unfold KF
  rw [if_neg (by omega), if_neg (by omega), if_neg (by omega), if_neg (by omega), if_neg (by omega), if_neg (by omega), if_neg (by omega), if_neg (by omega), if_neg (by omega), if_neg (by omega), if_neg (by omega), if_neg (by omega), if_pos (by omega), show ((191 : Int) + l - 191).toNat = l by omega]
theorem KU_0 {Z : ZT} : KU Z 0 = Z 100 8 := by
  unfold KU
  rw [if_pos (by decide)]
/-- numbers of a plan, one stretch behind another -/
theorem KF_cases {P : Int → Prop} (h0 : P 0) (h7 : ∀ l : Nat, l < 4 → P (7 + (l : Int))) (h11 : ∀ l : Nat, l < 4 → P (11 + (l : Int))) (h15 : ∀ l : Nat, l < 4 → P (15 + (l : Int))) (h19 : ∀ l : Nat, l < 4 → P (19 + (l : Int))) (h23 : ∀ l : Nat, l < 4 → P (23 + (l : Int))) (h27 : ∀ l : Nat, l < 4 → P (27 + (l : Int))) (h31 : ∀ l : Nat, l < 80 → P (31 + (l : Int))) (h111 : ∀ l : Nat, l < 80 → P (111 + (l : Int))) (h191 : ∀ l : Nat, l < 80 → P (191 + (l : Int))) : ∀ i : Int, i = 0 ∨ 7 ≤ i ∧ i < 271 → P i := by
  intro i hi
  have hc : i = 0 ∨ (7 ≤ i ∧ i < 11) ∨ (11 ≤ i ∧ i < 15) ∨ (15 ≤ i ∧ i < 19) ∨ (19 ≤ i ∧ i < 23) ∨ (23 ≤ i ∧ i < 27) ∨ (27 ≤ i ∧ i < 31) ∨ (31 ≤ i ∧ i < 111) ∨ (111 ≤ i ∧ i < 191) ∨ (191 ≤ i ∧ i < 271) := by omega
  rcases hc with h | h | h | h | h | h | h | h | h | h
  · rw [h]
    exact h0
  · have e : i = 7 + (((i - 7).toNat : Nat) : Int) := by omega
    rw [e]
    exact h7 _ (by omega)
  · have e : i = 11 + (((i - 11).toNat : Nat) : Int) := by omega
    rw [e]
    exact h11 _ (by omega)
  · have e : i = 15 + (((i - 15).toNat : Nat) : Int) := by omega
    rw [e]
    exact h15 _ (by omega)
  · have e : i = 19 + (((i - 19).toNat : Nat) : Int) := by omega
    rw [e]
    exact h19 _ (by omega)
  · have e : i = 23 + (((i - 23).toNat : Nat) : Int) := by omega
    rw [e]
    exact h23 _ (by omega)
  · have e : i = 27 + (((i - 27).toNat : Nat) : Int) := by omega
    rw [e]
    exact h27 _ (by omega)
  · have e : i = 31 + (((i - 31).toNat : Nat) : Int) := by omega
    rw [e]
    exact h31 _ (by omega)
  · have e : i = 111 + (((i - 111).toNat : Nat) : Int) := by omega
    rw [e]
    exact h111 _ (by omega)
  · have e : i = 191 + (((i - 191).toNat : Nat) : Int) := by omega
    rw [e]
    exact h191 _ (by omega)
theorem KF_low {Z Z' : ZT} (h7 : Z' 100 7 = Z 100 7) (lw : LOW Z Z') : ∀ i : Int, i = 0 ∨ 7 ≤ i ∧ i < 271 → KF Z' i = KF Z i := by
  refine KF_cases (P := fun i => KF Z' i = KF Z i) ?_ ?_ ?_ ?_ ?_ ?_ ?_ ?_ ?_ ?_
  · show KF Z' 0 = KF Z 0
    rw [KFp_0, KFp_0]
    exact h7
  · intro l hl
    show KF Z' (7 + (l : Int)) = KF Z (7 + (l : Int))
    rw [KFp_7 hl, KFp_7 hl]
    exact lw.1 103 l (by decide) (by decide) hl
  · intro l hl
    show KF Z' (11 + (l : Int)) = KF Z (11 + (l : Int))
    rw [KFp_11 hl, KFp_11 hl]
    exact lw.1 104 l (by decide) (by decide) hl
  · intro l hl
    show KF Z' (15 + (l : Int)) = KF Z (15 + (l : Int))
    rw [KFp_15 hl, KFp_15 hl]
    exact lw.1 105 l (by decide) (by decide) hl
  · intro l hl
    show KF Z' (19 + (l : Int)) = KF Z (19 + (l : Int))
    rw [KFp_19 hl, KFp_19 hl]
    exact lw.1 106 l (by decide) (by decide) hl
  · intro l hl
    show KF Z' (23 + (l : Int)) = KF Z (23 + (l : Int))
    rw [KFp_23 hl, KFp_23 hl]
    exact lw.1 107 l (by decide) (by decide) hl
  · intro l hl
    show KF Z' (27 + (l : Int)) = KF Z (27 + (l : Int))
    rw [KFp_27 hl, KFp_27 hl]
    exact lw.1 108 l (by decide) (by decide) hl
  · intro l hl
    show KF Z' (31 + (l : Int)) = KF Z (31 + (l : Int))
    rw [KFp_31 hl, KFp_31 hl]
    exact lw.2 109 l (by decide) (by decide) hl
  · intro l hl
    show KF Z' (111 + (l : Int)) = KF Z (111 + (l : Int))
    rw [KFp_111 hl, KFp_111 hl]
    exact lw.2 110 l (by decide) (by decide) hl
  · intro l hl
    show KF Z' (191 + (l : Int)) = KF Z (191 + (l : Int))
    rw [KFp_191 hl, KFp_191 hl]
    exact lw.2 111 l (by decide) (by decide) hl
theorem KF_cpm {Zr Z : ZT} (h7 : Z 100 7 = Zr 100 8) (c : CPM Zr Z 4 80) : ∀ i : Int, i = 0 ∨ 7 ≤ i ∧ i < 271 → KF Z i = KU Zr i := by
  refine KF_cases (P := fun i => KF Z i = KU Zr i) ?_ ?_ ?_ ?_ ?_ ?_ ?_ ?_ ?_ ?_
  · show KF Z 0 = KU Zr 0
    rw [KFp_0, KU_0]
    exact h7
  · intro l hl
    show KF Z (7 + (l : Int)) = KU Zr (7 + (l : Int))
    rw [KFp_7 hl, KU_7 hl]
    exact (c.1 l (by omega)).1
  · intro l hl
    show KF Z (11 + (l : Int)) = KU Zr (11 + (l : Int))
    rw [KFp_11 hl, KU_11 hl]
    exact (c.1 l (by omega)).2.1
  · intro l hl
    show KF Z (15 + (l : Int)) = KU Zr (15 + (l : Int))
    rw [KFp_15 hl, KU_15 hl]
    exact (c.1 l (by omega)).2.2.1
  · intro l hl
    show KF Z (19 + (l : Int)) = KU Zr (19 + (l : Int))
    rw [KFp_19 hl, KU_19 hl]
    exact (c.1 l (by omega)).2.2.2.1
  · intro l hl
    show KF Z (23 + (l : Int)) = KU Zr (23 + (l : Int))
    rw [KFp_23 hl, KU_23 hl]
    exact (c.1 l (by omega)).2.2.2.2.1
  · intro l hl
    show KF Z (27 + (l : Int)) = KU Zr (27 + (l : Int))
    rw [KFp_27 hl, KU_27 hl]
    exact (c.1 l (by omega)).2.2.2.2.2
  · intro l hl
    show KF Z (31 + (l : Int)) = KU Zr (31 + (l : Int))
    rw [KFp_31 hl, KU_31 hl]
    exact (c.2 l (by omega)).1
  · intro l hl
    show KF Z (111 + (l : Int)) = KU Zr (111 + (l : Int))
    rw [KFp_111 hl, KU_111 hl]
    exact (c.2 l (by omega)).2.1
  · intro l hl
    show KF Z (191 + (l : Int)) = KU Zr (191 + (l : Int))
    rw [KFp_191 hl, KU_191 hl]
    exact (c.2 l (by omega)).2.2
theorem LOW_o {Z Z' : ZT} (h : ∀ o, 103 ≤ o → o ≤ 111 → Z' o = Z o) : LOW Z Z' := ⟨fun o k h1 h2 _ => congrFun (h o (by omega) (by omega)) k, fun o k h1 h2 _ => congrFun (h o (by omega) (by omega)) k⟩
theorem PN_pwf {Z : ZT} {f : Int → Int} (h : PNR Z 19 f) : PWF Z := by
  intro l hl h0
  obtain ⟨⟨-, -, -, -, hu⟩, b, -⟩ := h
  have q := b l hl
  simp only [Nat.reduceAdd] at q
  omega
/-- a letter's line, class's and model's -/
theorem PN_at {Z : ZT} (h : PNR Z 19 (KF Z)) {l : Nat} (hl : l < 4) : Z 21 l < 0 ∧ Z 104 l < 0 ∨ 0 ≤ Z 21 l ∧ Z 104 l = Z 21 l ∧ Z 105 l = Z 22 l ∧ Z 106 l = Z 23 l ∧ Z 107 l = Z 24 l ∧ Z 108 l = Z 25 l ∧ 0 ≤ Z 22 l ∧ 0 ≤ Z 23 l ∧ Z 22 l + Z 23 l ≤ Z 19 1 ∧ Z 19 1 ≤ 80 := by
  obtain ⟨⟨-, -, -, -, hu⟩, b, -⟩ := h
  have q := b l hl
  simp only [Nat.reduceAdd] at q
  rw [KFp_11 hl, KFp_15 hl, KFp_19 hl, KFp_23 hl, KFp_27 hl] at q
  omega
theorem PN_tm {Z : ZT} (h : PNR Z 19 (KF Z)) {t : Nat} (ht : (t : Int) < Z 19 1) : Z 109 t = Z 26 t ∧ Z 110 t = mN (Z 27 t) ∧ NC (Z 27 t) ∧ Z 111 t = mN (Z 28 t) ∧ (Z 28 t = -1 ∨ NC (Z 28 t)) := by
  obtain ⟨⟨-, -, -, -, hu⟩, -, c, -⟩ := h
  have q := c t ht
  simp only [Nat.reduceAdd] at q
  rw [KFp_31 (by omega), KFp_111 (by omega), KFp_191 (by omega)] at q
  exact q
theorem bits_t : ∀ n : Fin 36, n.val &&& 3 = n.val % 4 ∧ n.val &&& 32 = (if 32 ≤ n.val then 32 else 0) := by decide
theorem GDN_m {c l : Int} (h : NC c) : GDN l c ↔ mN c % 4 = l ∧ mN c < 20 := by
  have hc : 0 ≤ c ∧ c < 36 := by
    unfold NC at h
    omega
  obtain ⟨q1, q2⟩ := bits_t ⟨c.toNat, by omega⟩
  dsimp only at q1 q2
  have e1 : and32 c 3 = c % 4 := by
    rw [and32_nat (by omega) (by omega) (by decide) (by decide)]
    show ((c.toNat &&& 3 : Nat) : Int) = _
    rw [q1]
    omega
  have e2 : and32 c 32 = if 32 ≤ c then 32 else 0 := by
    rw [and32_nat (by omega) (by omega) (by decide) (by decide)]
    show ((c.toNat &&& 32 : Nat) : Int) = _
    rw [q2]
    by_cases hq : 32 ≤ c
    · rw [if_pos (by omega), if_pos hq]
      rfl
    · rw [if_neg (by omega), if_neg hq]
      rfl
  unfold GDN mN
  rw [e1, e2]
  unfold NC at h
  by_cases hq : 32 ≤ c
  · rw [if_pos hq, if_pos hq]
    constructor
    · rintro ⟨-, k⟩
      exact absurd k (by decide)
    · rintro ⟨-, k⟩
      omega
  · rw [if_neg hq, if_neg hq]
    constructor
    · rintro ⟨k, -⟩
      exact ⟨k, by omega⟩
    · rintro ⟨k, -⟩
      exact ⟨k, rfl⟩
theorem PN_hp {Z : ZT} (h : PNR Z 19 (KF Z)) {s n : Int} (h0 : 0 ≤ s) (h1 : s + n ≤ Z 19 1) : HPC (Z 28) s n ↔ HPM (Z 111) s n := by
  constructor
  · rintro ⟨t, t1, t2, t3⟩
    obtain ⟨-, -, -, q4, q5⟩ := PN_tm h (t := t) (by omega)
    refine ⟨t, t1, t2, ?_⟩
    rw [q4]
    rcases q5 with e | e
    · exact absurd e t3
    · unfold mN
      unfold NC at e
      split <;> omega
  · rintro ⟨t, t1, t2, t3⟩
    obtain ⟨-, -, -, q4, -⟩ := PN_tm h (t := t) (by omega)
    refine ⟨t, t1, t2, fun e => ?_⟩
    rw [q4, e] at t3
    exact absurd t3 (by decide)
theorem PN_ks {Z : ZT} (h : PNR Z 19 (KF Z)) {l : Int} (l0 : 0 ≤ l) (l3 : l ≤ 3) (hp : 0 ≤ Z 21 l.toNat) : KSC Z l ↔ KSM Z l := by
  rcases PN_at h (l := l.toNat) (by omega) with q | ⟨-, -, e5, e6, e7, -, s0, n0, hu, -⟩
  · omega
  have h3 := PN_hp h (s := Z 22 l.toNat) (n := Z 23 l.toNat) s0 hu
  have h2 : sw (Z 26) (Z 22 l.toNat).toNat (Z 23 l.toNat).toNat = sw (Z 109) (Z 22 l.toNat).toNat (Z 23 l.toNat).toNat := sw_eq _ (fun t t1 t2 => (PN_tm h (t := t) (by omega)).1.symm)
  unfold KSC KSM
  rw [e5, e6, e7, h2]
  refine and_congr ⟨fun g t t1 t2 => ?_, fun g t t1 t2 => ?_⟩ (and_congr Iff.rfl (not_congr h3))
  · obtain ⟨-, q2, q3, -⟩ := PN_tm h (t := t) (by omega)
    rw [q2]
    exact (GDN_m q3).mp (g t t1 t2)
  · obtain ⟨-, q2, q3, -⟩ := PN_tm h (t := t) (by omega)
    have k := g t t1 t2
    rw [q2] at k
    exact (GDN_m q3).mpr k
theorem PN_ss {Z : ZT} (h : PNR Z 19 (KF Z)) {l : Int} (l0 : 0 ≤ l) (l3 : l ≤ 3) (hp : 0 ≤ Z 21 l.toNat) : SSC Z l ↔ SSM Z l := by
  rcases PN_at h (l := l.toNat) (by omega) with q | ⟨-, -, e5, e6, e7, -, s0, n0, hu, -⟩
  · omega
  have h3 := PN_hp h (s := Z 22 l.toNat) (n := Z 23 l.toNat) s0 hu
  have h2 : sw (fun t => aw (Z 26 t)) (Z 22 l.toNat).toNat (Z 23 l.toNat).toNat = sw (fun t => aw (Z 109 t)) (Z 22 l.toNat).toNat (Z 23 l.toNat).toNat := sw_eq _ (fun t t1 t2 => by
    show aw (Z 26 t) = aw (Z 109 t)
    rw [(PN_tm h (t := t) (by omega)).1])
  unfold SSC SSM
  rw [e5, e6, e7, h2]
  exact and_congr Iff.rfl (not_congr h3)
theorem PN_line {Z : ZT} {a1 a2 xA xB : Int} (h : PNR Z 19 (KF Z)) (pA : xA = -1 ∧ ¬(0 ≤ a1 ∧ a1 ≤ 3 ∧ 0 ≤ a2 ∧ a2 ≤ 4) ∨ (0 ≤ a1 ∧ a1 ≤ 3 ∧ 0 ≤ a2 ∧ a2 ≤ 4) ∧ (Z 21 a1.toNat < 0 ∧ xA = -4 ∨ 0 ≤ Z 21 a1.toNat ∧ (a2 = 0 ∧ xA = Z 21 a1.toNat ∨ a2 = 1 ∧ xA = Z 23 a1.toNat ∨ a2 = 2 ∧ xA = Z 24 a1.toNat ∨ a2 = 3 ∧ xA = Z 25 a1.toNat ∨ a2 = 4 ∧ (xA = 1 ∧ HPC (Z 28) (Z 22 a1.toNat) (Z 23 a1.toNat) ∨ xA = 0 ∧ ¬HPC (Z 28) (Z 22 a1.toNat) (Z 23 a1.toNat))))) (pB : xB = -1 ∧ ¬(0 ≤ a1 ∧ a1 ≤ 3 ∧ 0 ≤ a2 ∧ a2 ≤ 4) ∨ (0 ≤ a1 ∧ a1 ≤ 3 ∧ 0 ≤ a2 ∧ a2 ≤ 4) ∧ (Z 104 a1.toNat < 0 ∧ xB = -4 ∨ 0 ≤ Z 104 a1.toNat ∧ (a2 = 0 ∧ xB = Z 104 a1.toNat ∨ a2 = 1 ∧ xB = Z 106 a1.toNat ∨ a2 = 2 ∧ xB = Z 107 a1.toNat ∨ a2 = 3 ∧ xB = Z 108 a1.toNat ∨ a2 = 4 ∧ (xB = 1 ∧ HPM (Z 111) (Z 105 a1.toNat) (Z 106 a1.toNat) ∨ xB = 0 ∧ ¬HPM (Z 111) (Z 105 a1.toNat) (Z 106 a1.toNat))))) : xA = xB := by
  rcases pA with ⟨x1, r1⟩ | ⟨r1, pA⟩ <;> rcases pB with ⟨y1, s1⟩ | ⟨s1, pB⟩
  · omega
  · exact absurd s1 r1
  · exact absurd r1 s1
  · have q := PN_at h (l := a1.toNat) (by omega)
    rcases pA with ⟨c1, x1⟩ | ⟨c1, pA⟩ <;> rcases pB with ⟨d1, y1⟩ | ⟨d1, pB⟩
    · omega
    · exfalso
      clear pB
      omega
    · exfalso
      clear pA
      omega
    · rcases q with q | ⟨-, e4, e5, e6, e7, e8, s0, n0, hu, -⟩
      · exfalso
        clear pA pB
        omega
      have hh := PN_hp h (s := Z 22 a1.toNat) (n := Z 23 a1.toNat) s0 hu
      rw [e4, e5, e6, e7, e8] at pB
      rcases pA with ⟨u, x1⟩ | ⟨u, x1⟩ | ⟨u, x1⟩ | ⟨u, x1⟩ | ⟨u, ⟨x1, g⟩ | ⟨x1, g⟩⟩ <;> rcases pB with ⟨v, y1⟩ | ⟨v, y1⟩ | ⟨v, y1⟩ | ⟨v, y1⟩ | ⟨v, ⟨y1, k⟩ | ⟨y1, k⟩⟩ <;> first | omega | exact absurd (hh.mp g) k | exact absurd (hh.mpr k) g
theorem PN_kept {Z : ZT} {a1 xA xB : Int} (h : PNR Z 19 (KF Z)) (he : Z 18 3 = Z 100 2) (pA : xA = -1 ∧ ¬(0 ≤ a1 ∧ a1 ≤ 3) ∨ (0 ≤ a1 ∧ a1 ≤ 3) ∧ (Z 21 a1.toNat < 0 ∧ xA = 1 ∨ 0 ≤ Z 21 a1.toNat ∧ (xA = 1 ∧ (Z 18 3 = 0 ∧ KSC Z a1) ∨ xA = 0 ∧ ¬(Z 18 3 = 0 ∧ KSC Z a1)))) (pB : xB = -1 ∧ ¬(0 ≤ a1 ∧ a1 ≤ 3) ∨ (0 ≤ a1 ∧ a1 ≤ 3) ∧ (Z 104 a1.toNat < 0 ∧ xB = 1 ∨ 0 ≤ Z 104 a1.toNat ∧ (xB = 1 ∧ (Z 100 2 = 0 ∧ KSM Z a1) ∨ xB = 0 ∧ ¬(Z 100 2 = 0 ∧ KSM Z a1)))) : xA = xB := by
  rcases pA with ⟨x1, r1⟩ | ⟨r1, pA⟩ <;> rcases pB with ⟨y1, s1⟩ | ⟨s1, pB⟩
  · omega
  · exact absurd s1 r1
  · exact absurd r1 s1
  · have q := PN_at h (l := a1.toNat) (by omega)
    rcases pA with ⟨c1, x1⟩ | ⟨c1, pA⟩ <;> rcases pB with ⟨d1, y1⟩ | ⟨d1, pB⟩
    · omega
    · exfalso
      clear pB
      omega
    · exfalso
      clear pA
      omega
    · have hh := PN_ks h r1.1 r1.2 c1
      rw [he] at pA
      rcases pA with ⟨x1, g⟩ | ⟨x1, g⟩ <;> rcases pB with ⟨y1, k⟩ | ⟨y1, k⟩
      · omega
      · exact absurd ⟨g.1, hh.mp g.2⟩ k
      · exact absurd ⟨k.1, hh.mpr k.2⟩ g
      · omega
theorem PN_grows {Z : ZT} {xA xB : Int} (h : PNR Z 19 (KF Z)) (pA : xA = 1 ∧ (∀ l : Nat, l < 4 → 0 ≤ Z 21 l → SSC Z l) ∨ xA = 0 ∧ ¬(∀ l : Nat, l < 4 → 0 ≤ Z 21 l → SSC Z l)) (pB : xB = 1 ∧ (∀ l : Nat, l < 4 → 0 ≤ Z 104 l → SSM Z l) ∨ xB = 0 ∧ ¬(∀ l : Nat, l < 4 → 0 ≤ Z 104 l → SSM Z l)) : xA = xB := by
  have key : (∀ l : Nat, l < 4 → 0 ≤ Z 21 l → SSC Z l) ↔ ∀ l : Nat, l < 4 → 0 ≤ Z 104 l → SSM Z l := by
    constructor
    · intro g l hl h0
      rcases PN_at h hl with ⟨-, q⟩ | ⟨q0, q1, -⟩
      · exfalso
        omega
      · exact (PN_ss h (l := (l : Int)) (by omega) (by omega) q0).mp (g l hl q0)
    · intro g l hl h0
      rcases PN_at h hl with ⟨q, -⟩ | ⟨q0, q1, -⟩
      · exfalso
        omega
      · exact (PN_ss h (l := (l : Int)) (by omega) (by omega) q0).mpr (g l hl (by omega))
  rcases pA with ⟨x1, g⟩ | ⟨x1, g⟩ <;> rcases pB with ⟨y1, k⟩ | ⟨y1, k⟩
  · omega
  · exact absurd (key.mp g) k
  · exact absurd (key.mpr k) g
  · omega
theorem PN_fault {Z ZA ZB : ZT} (h : PNR Z 19 (KF Z)) (cA : ∀ o, 19 ≤ o → o ≤ 28 → ZA o = Z o) (mA : ∀ o, 100 ≤ o → o ≤ 130 → ZA o = Z o) (cB : ∀ o, o ≤ 99 → ZB o = ZA o) (m7 : ZB 100 7 = ZA 100 7) (lw : LOW ZA ZB) : PNR ZB 19 (KF ZB) :=
  PNR_f (PNR_o (fun o h1 h2 => (cB o (by omega)).trans (cA o (by omega) (by omega))) h) (KF_low (m7.trans (congrFun (mA 100 (by decide) (by decide)) 7)) (LOW_t (LOW_o (fun o h1 h2 => mA o (by omega) (by omega))) lw))
theorem PN_plan {ZA ZB Zr : ZT} {b : Int → Int} {len : Int} {m : Nat} (hr : RDR b len m (-4)) (hl : RDL b Zr m) (tk : TKP ZA Zr 19 8) (hu : ZA 19 1 ≤ 80) (pl : PLI b len ZB 4 80) (cB : ∀ o, o ≤ 99 → ZB o = ZA o) : PNR ZB 19 (KF ZB) := by
  obtain ⟨m', Zm, g1, g2, -, g4, g5, -⟩ := pl
  obtain ⟨em, -⟩ := RDR_u hr g1
  subst em
  have q := RD_PN hr hl g2 (by rw [← tk.2.1]; exact hu)
  have g7 : ZB 100 7 = Zm 100 8 := by rw [g4, g2.1.1]
  exact PNR_f (PNR_o (fun o h1 h2 => cB o (by omega)) (PNR_c tk q)) (KF_cpm g7 g5)
/-- a kept plan -/
theorem SP_o {Z Z' : ZT} {d : Nat} {k : Int} (e : ∀ o, d ≤ o → o ≤ d + 9 → Z' o = Z o) (e1 : ∀ i : Int, 0 ≤ i → i < 463 → Z' 121 (700 * k + i).toNat = Z 121 (700 * k + i).toNat) (g : PNR Z d (fun i => Z 121 (700 * k + i).toNat)) : PNR Z' d (fun i => Z' 121 (700 * k + i).toNat) := PNR_f (PNR_o e g) (fun i hi => e1 i (by omega) (by omega))
theorem SP_new {Z ZA ZB : ZT} {d : Nat} {k : Int} (hd : d + 9 ≤ 99) (tk : TKP ZA Z d 19) (h : PNR Z 19 (KF Z)) (kw : AL (KWP ZA ZB k) (fun _ => True)) (fm : ∀ o, 100 ≤ o → o ≤ 130 → ZA o = Z o) (fc : ∀ o, o ≤ 99 → ZB o = ZA o) : PNR ZB d (fun i => ZB 121 (700 * k + i).toNat) := by
  refine PNR_f (PNR_o (fun o h1 h2 => fc o (by omega)) (PNR_c tk h)) (fun i hi => ?_)
  have e := kw i (by omega) (by omega) trivial
  have e2 := KF_low (congrFun (fm 100 (by decide) (by decide)) 7) (LOW_o (fun o h1 h2 => fm o (by omega) (by omega))) i hi
  unfold KWP at e
  exact e.trans e2
theorem SP_back {Z ZA ZB : ZT} {d : Nat} {k : Int} (tk : TKP ZA Z 19 d) (h : PNR Z d (fun i => Z 121 (700 * k + i).toNat)) (bw : AL (BWP ZA ZB k) (fun _ => True)) (f1 : ZA 121 = Z 121) (fc : ∀ o, o ≤ 99 → ZB o = ZA o) : PNR ZB 19 (KF ZB) := by
  refine PNR_f (PNR_o (fun o h1 h2 => fc o (by omega)) (PNR_c tk h)) (fun i hi => ?_)
  have e := bw i (by omega) (by omega) trivial
  unfold BWP at e
  rw [f1] at e
  exact e
