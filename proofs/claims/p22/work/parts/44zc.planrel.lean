/-! ===== the plan: class's and model's alike ===== -/
def NC (c : Int) : Prop := 0 ≤ c ∧ c < 20 ∨ 32 ≤ c ∧ c < 36
/-- a name of this step means a letter with a line ahead -/
def NWD (f : Int → Int) (m i : Int) : Prop := 20 ≤ m → 0 ≤ f (11 + (m - 20)) ∧ f (11 + (m - 20)) < i
/-- the plan alike: the class's at d, the model's numbers f -/
def PNR (Z : ZT) (d : Nat) (f : Int → Int) : Prop := (Z d 0 = f 0 ∧ 0 ≤ Z d 0 ∧ Z d 0 ≤ 4 ∧ 0 ≤ Z d 1 ∧ Z d 1 ≤ 80) ∧ (∀ l : Nat, l < 4 → Z (d + 2) l < 0 ∧ f (11 + (l : Int)) < 0 ∨ (0 ≤ Z (d + 2) l ∧ Z (d + 2) l < Z d 0) ∧ f (11 + (l : Int)) = Z (d + 2) l ∧ f (15 + (l : Int)) = Z (d + 3) l ∧ f (19 + (l : Int)) = Z (d + 4) l ∧ f (23 + (l : Int)) = Z (d + 5) l ∧ f (27 + (l : Int)) = Z (d + 6) l ∧ 0 ≤ Z (d + 3) l ∧ 0 ≤ Z (d + 4) l ∧ Z (d + 3) l + Z (d + 4) l ≤ Z d 1) ∧ (∀ t : Nat, (t : Int) < Z d 1 → f (31 + (t : Int)) = Z (d + 7) t ∧ f (111 + (t : Int)) = mN (Z (d + 8) t) ∧ NC (Z (d + 8) t) ∧ f (191 + (t : Int)) = mN (Z (d + 9) t) ∧ (Z (d + 9) t = -1 ∨ NC (Z (d + 9) t))) ∧ ORD Z d ∧ (∀ k : Nat, (k : Int) < Z d 0 → (0 ≤ f (7 + (k : Int)) ∧ f (7 + (k : Int)) ≤ 3) ∧ f (11 + f (7 + (k : Int))) = k) ∧ (∀ l t : Nat, l < 4 → 0 ≤ Z (d + 2) l → Z (d + 3) l ≤ t → (t : Int) < Z (d + 3) l + Z (d + 4) l → NWD f (f (111 + (t : Int))) (f (11 + (l : Int))) ∧ NWD f (f (191 + (t : Int))) (f (11 + (l : Int))))
theorem mN_r {c : Int} (h : c = -1 ∨ NC c) : mN c ≤ 23 := by
  unfold mN
  unfold NC at h
  split <;> omega
theorem PNR_f {Z : ZT} {d : Nat} {f g : Int → Int} (h : PNR Z d f) (e : ∀ i : Int, i = 0 ∨ 7 ≤ i ∧ i < 271 → g i = f i) : PNR Z d g := by
  obtain ⟨⟨a1, a2, a3, a4, a5⟩, b, c, o, k, w⟩ := h
  refine ⟨⟨by rw [e 0 (Or.inl rfl)]; exact a1, a2, a3, a4, a5⟩, fun l hl => ?_, fun t ht => ?_, o, fun j hj => ?_, fun l t hl h0 h1 h2 => ?_⟩
  · rw [e (11 + (l : Int)) (by omega), e (15 + (l : Int)) (by omega), e (19 + (l : Int)) (by omega), e (23 + (l : Int)) (by omega), e (27 + (l : Int)) (by omega)]
    exact b l hl
  · rw [e (31 + (t : Int)) (by omega), e (111 + (t : Int)) (by omega), e (191 + (t : Int)) (by omega)]
    exact c t ht
  · have q := k j hj
    rw [e (7 + (j : Int)) (by omega), e (11 + f (7 + (j : Int))) (by omega)]
    exact q
  · have hb := b l hl
    have ht : (t : Int) < Z d 1 := by omega
    have hc := c t ht
    have r1 : f (111 + (t : Int)) ≤ 23 := by rw [hc.2.1]; exact mN_r (Or.inr hc.2.2.1)
    have r2 : f (191 + (t : Int)) ≤ 23 := by rw [hc.2.2.2.1]; exact mN_r hc.2.2.2.2
    have q := w l t hl h0 h1 h2
    rw [e (111 + (t : Int)) (by omega), e (191 + (t : Int)) (by omega), e (11 + (l : Int)) (by omega)]
    unfold NWD at q ⊢
    refine ⟨fun h => ?_, fun h => ?_⟩
    · rw [e (11 + (f (111 + (t : Int)) - 20)) (by omega)]
      exact q.1 h
    · rw [e (11 + (f (191 + (t : Int)) - 20)) (by omega)]
      exact q.2 h
theorem ORD_t {Z Z0 : ZT} {d s : Nat} (h : ORD Z0 s) (e0 : Z d 0 = Z0 s 0) (e1 : CY Z Z0 (d + 1) (s + 1) 4) (e2 : CY Z Z0 (d + 2) (s + 2) 4) : ORD Z d := by
  obtain ⟨h1, h2⟩ := h
  refine ⟨fun l hl => ?_, fun t t' ht ht' he => ?_⟩
  · obtain ⟨t, t4, te, tp_, tn⟩ := h1 l hl
    exact ⟨t, t4, by rw [e1 t (by omega)]; exact te, by rw [e0, e2 l (by omega)]; exact tp_, by rw [e0, e2 l (by omega)]; exact tn⟩
  · rw [e1 t (by omega), e1 t' (by omega)] at he
    exact h2 t t' ht ht' he
theorem PNR_c {Z Z0 : ZT} {d s : Nat} {f : Int → Int} (tk : TKP Z Z0 d s) (h : PNR Z0 s f) : PNR Z d f := by
  obtain ⟨t0, t1, c1, c2, c3, c4, c5, c6, c7, c8, c9⟩ := tk
  obtain ⟨⟨a1, a2, a3, a4, a5⟩, b, c, o, k, w⟩ := h
  refine ⟨by rw [t0, t1]; exact ⟨a1, a2, a3, a4, a5⟩, fun l hl => ?_, fun t ht => ?_, ORD_t o t0 c1 c2, by rw [t0]; exact k, fun l t hl h0 h1 h2 => ?_⟩
  · rw [c2 l (by omega), c3 l (by omega), c4 l (by omega), c5 l (by omega), c6 l (by omega), t0, t1]
    exact b l hl
  · rw [t1] at ht
    rw [c7 t ht, c8 t ht, c9 t ht]
    exact c t ht
  · rw [c2 l (by omega)] at h0
    rw [c3 l (by omega)] at h1 h2
    rw [c4 l (by omega)] at h2
    exact w l t hl h0 h1 h2
theorem PNR_o {Z Z' : ZT} {d : Nat} {f : Int → Int} (e : ∀ o, d ≤ o → o ≤ d + 9 → Z' o = Z o) (h : PNR Z d f) : PNR Z' d f := by
  have tk : TKP Z' Z d d := by
    refine ⟨congrFun (e d (by omega) (by omega)) 0, congrFun (e d (by omega) (by omega)) 1, ?_, ?_, ?_, ?_, ?_, ?_, ?_, ?_, ?_⟩ <;> exact fun k _ => congrFun (e _ (by omega) (by omega)) k
  exact PNR_c tk h
/-- an empty plan -/
theorem PNR_0 {Z : ZT} {d : Nat} {f : Int → Int} (h0 : Z d 0 = 0) (h1 : Z d 1 = 0) (o : OI Z (d + 1) 4) (q : FL Z (d + 2) (-1) 4) (g0 : f 0 = 0) (g : ∀ l : Nat, l < 4 → f (11 + (l : Int)) < 0) : PNR Z d f := by
  refine ⟨by omega, fun l hl => Or.inl ⟨by rw [q l (by omega)]; decide, g l hl⟩, fun t ht => by omega, ORD_0 h0 o q, fun k hk => by omega, fun l t hl h => ?_⟩
  rw [q l (by omega)] at h
  omega
theorem tp_s (b : Int → Int) (p : Int) : ∀ k : Nat, tp b (tmE b p) k = tp b p (k + 1)
  | 0 => rfl
  | k + 1 => by
    show tmE b (tp b (tmE b p) k) = tmE b (tp b p (k + 1))
    rw [tp_s b p k]
theorem tp_ge (b : Int → Int) (p : Int) : ∀ k : Nat, p ≤ tp b p k
  | 0 => Int.le_refl p
  | k + 1 => by
    have h1 := tp_ge b p k
    have h2 := (tmE_ge b (tp b p k)).1
    show p ≤ tmE b (tp b p k)
    omega
theorem tsC_ok (b pl : Int → Int) : ∀ (n : Nat) (p j0 : Int), (tsC b pl n p j0).1 = -1 → ∀ j : Nat, j0 + (j : Int) < (tsC b pl n p j0).2.2 → tmB b pl (tp b p j) = -1
  | 0, p, j0, _, j, hj => by
    have e : (tsC b pl 0 p j0).2.2 = j0 := rfl
    omega
  | n + 1, p, j0, h, j, hj => by
    have u : tsC b pl (n + 1) p j0 = if tmB b pl p ≠ -1 then (tmB b pl p, p, j0) else if b (tmE b p) = 43 ∨ b (tmE b p) = 45 then tsC b pl n (tmE b p) (j0 + 1) else (-1, tmE b p, j0 + 1) := rfl
    rw [u] at h hj
    by_cases hq : tmB b pl p ≠ -1
    · rw [if_pos hq] at h
      exact absurd h hq
    · rw [if_neg hq] at h hj
      rcases j with _ | j
      · show tmB b pl p = -1
        omega
      · rw [← tp_s]
        by_cases hs : b (tmE b p) = 43 ∨ b (tmE b p) = 45
        · rw [if_pos hs] at h hj
          exact tsC_ok b pl n (tmE b p) (j0 + 1) h j (by omega)
        · rw [if_neg hs] at hj
          have e : ((-1, tmE b p, j0 + 1) : Int × Int × Int).2.2 = j0 + 1 := rfl
          omega
theorem lnB_T {b pl : Int → Int} {p : Int} (h : lnB b pl p = -1) (hp : 0 ≤ p) : (lnT b pl p).1 = -1 := by
  have h2 : (lnT b pl p).1 = -1 ∨ p + 2 ≤ (lnT b pl p).1 := (tsC_ge b pl 100 (p + 2) 0).1
  unfold lnB at h
  (repeat' split at h) <;> omega
theorem tmB_ok {b pl : Int → Int} {p : Int} (h : tmB b pl p = -1) (hp : 0 ≤ p) : nmOK b pl (tmQ b p) ∧ (b (tmR b p) = 46 → nmOK b pl (tmR b p + 1)) := by
  have h1 : p ≤ tmP b p := by
    unfold tmP
    split <;> omega
  have h3 : tmP b p ≤ tmQ b p := by
    unfold tmQ
    split
    · exact dgE_ge b 200 _
    · omega
  have h4 : tmQ b p + 1 ≤ tmR b p := nmE_ge b _
  unfold tmB at h
  by_cases c1 : (48 ≤ b (tmP b p) ∧ b (tmP b p) ≤ 57) ∧ ¬nuOK b (tmP b p) 999
  · rw [if_pos c1] at h
    omega
  · rw [if_neg c1] at h
    by_cases c2 : nmOK b pl (tmQ b p)
    · refine ⟨c2, fun hd => ?_⟩
      rw [if_neg (fun g => g c2)] at h
      by_cases c3 : nmOK b pl (tmR b p + 1)
      · exact c3
      · rw [if_pos ⟨hd, c3⟩] at h
        omega
    · rw [if_pos c2] at h
      omega
theorem nmV_c {b pl : Int → Int} {q : Int} (h : nmOK b pl q) : NC (nmV b q) ∧ (20 ≤ mN (nmV b q) → mN (nmV b q) - 20 = b q - 97 ∧ 0 ≤ pl (b q - 97)) := by
  have hs := sdOf_r (b (q + 1))
  have e : nmS b q = sdOf (b (q + 1)) := rfl
  obtain ⟨h1, h2⟩ := h
  unfold nmV
  by_cases hc : b (nmQ b q) = 39
  · rw [if_pos hc]
    refine ⟨Or.inr (by omega), fun _ => ?_⟩
    unfold mN
    rw [if_pos (by omega)]
    exact ⟨by omega, (h2 hc).2⟩
  · rw [if_neg hc]
    refine ⟨Or.inl (by omega), fun g => ?_⟩
    unfold mN at g
    rw [if_neg (by omega)] at g
    omega
theorem lsS_ge {b : Int → Int} {len : Int} : ∀ (m : Nat), (∀ i : Nat, i < m → OKL b len i) → 0 ≤ (lsS b m).1
  | 0, _ => Int.le_refl 0
  | m + 1, h => by
    have h1 := lsS_ge m (fun i hi => h i (by omega))
    have h2 : (lsS b m).1 + 2 ≤ (lnT b (lsS b m).2.1 (lsS b m).1).2.1 := (tsC_ge b (lsS b m).2.1 100 ((lsS b m).1 + 2) 0).2
    have h3 := lnQ_ge b (lnT b (lsS b m).2.1 (lsS b m).1).2.1
    show 0 ≤ lnR b (lnT b (lsS b m).2.1 (lsS b m).1).2.1 + 1
    omega
theorem lsS_at {b : Int → Int} : ∀ (m : Nat) (l : Int), 0 ≤ (lsS b m).2.1 l → ∃ i : Nat, i < m ∧ (lsS b m).2.1 l = i ∧ l = b (lsS b i).1 - 97
  | 0, l, h => by
    have e : (lsS b 0).2.1 l = -1 := rfl
    omega
  | m + 1, l, h => by
    have e : (lsS b (m + 1)).2.1 l = if l = b (lsS b m).1 - 97 then (m : Int) else (lsS b m).2.1 l := rfl
    by_cases hq : l = b (lsS b m).1 - 97
    · rw [if_pos hq] at e
      exact ⟨m, by omega, e, hq⟩
    · rw [if_neg hq] at e
      rw [e] at h ⊢
      obtain ⟨i, i1, i2, i3⟩ := lsS_at m l h
      exact ⟨i, by omega, i2, i3⟩
theorem lsS_stay {b : Int → Int} {len : Int} {l : Int} {i : Nat} (h : 0 ≤ (lsS b i).2.1 l) : ∀ (m : Nat), i ≤ m → (∀ j : Nat, j < m → OKL b len j) → (lsS b m).2.1 l = (lsS b i).2.1 l
  | 0, hm, _ => by
    have e : i = 0 := by omega
    rw [e]
  | m + 1, hm, hO => by
    by_cases hq : i = m + 1
    · rw [hq]
    · have ih := lsS_stay h m (by omega) (fun j hj => hO j (by omega))
      have e : (lsS b (m + 1)).2.1 l = if l = b (lsS b m).1 - 97 then (m : Int) else (lsS b m).2.1 l := rfl
      have hp := lsS_ge m (fun j hj => hO j (by omega))
      have ok := lnB_ok (hO m (by omega)).2 hp
      rw [e, if_neg (fun g => ?_), ih]
      rw [← g, ih] at ok
      omega
theorem lsS_t {b : Int → Int} : ∀ (m : Nat) (t : Int), 0 ≤ t → t < (lsS b m).2.2 → ∃ i : Nat, i < m ∧ (lsS b i).2.2 ≤ t ∧ t < (lsS b i).2.2 + (lnT b (lsS b i).2.1 (lsS b i).1).2.2
  | 0, t, h0, h => by
    have e : (lsS b 0).2.2 = 0 := rfl
    omega
  | m + 1, t, h0, h => by
    have e : (lsS b (m + 1)).2.2 = (lsS b m).2.2 + (lnT b (lsS b m).2.1 (lsS b m).1).2.2 := rfl
    by_cases hq : (lsS b m).2.2 ≤ t
    · exact ⟨m, by omega, hq, by omega⟩
    · obtain ⟨i, i1, i2, i3⟩ := lsS_t (b := b) m t h0 (by omega)
      exact ⟨i, by omega, i2, i3⟩
/-- the model's upper halves, counted as what is kept -/
def KU (Z : ZT) (i : Int) : Int := if i < 1 then Z 100 8 else if i < 11 then Z 103 (4 + (i - 7).toNat) else if i < 15 then Z 104 (4 + (i - 11).toNat) else if i < 19 then Z 105 (4 + (i - 15).toNat) else if i < 23 then Z 106 (4 + (i - 19).toNat) else if i < 27 then Z 107 (4 + (i - 23).toNat) else if i < 31 then Z 108 (4 + (i - 27).toNat) else if i < 111 then Z 109 (80 + (i - 31).toNat) else if i < 191 then Z 110 (80 + (i - 111).toNat) else Z 111 (80 + (i - 191).toNat)
theorem KU_7 {Z : ZT} {l : Nat} (h : l < 4) : KU Z (7 + (l : Int)) = Z 103 (4 + l) := by
  unfold KU
  rw [if_neg (by omega), if_pos (by omega), show ((7 : Int) + l - 7).toNat = l by omega]
theorem KU_11 {Z : ZT} {l : Nat} (h : l < 4) : KU Z (11 + (l : Int)) = Z 104 (4 + l) := by
  unfold KU
  rw [if_neg (by omega), if_neg (by omega), if_pos (by omega), show ((11 : Int) + l - 11).toNat = l by omega]
theorem KU_15 {Z : ZT} {l : Nat} (h : l < 4) : KU Z (15 + (l : Int)) = Z 105 (4 + l) := by
  unfold KU
  rw [if_neg (by omega), if_neg (by omega), if_neg (by omega), if_pos (by omega), show ((15 : Int) + l - 15).toNat = l by omega]
theorem KU_19 {Z : ZT} {l : Nat} (h : l < 4) : KU Z (19 + (l : Int)) = Z 106 (4 + l) := by
  unfold KU
  rw [if_neg (by omega), if_neg (by omega), if_neg (by omega), if_neg (by omega), if_pos (by omega), show ((19 : Int) + l - 19).toNat = l by omega]
theorem KU_23 {Z : ZT} {l : Nat} (h : l < 4) : KU Z (23 + (l : Int)) = Z 107 (4 + l) := by
  unfold KU
  rw [if_neg (by omega), if_neg (by omega), if_neg (by omega), if_neg (by omega), if_neg (by omega), if_pos (by omega), show ((23 : Int) + l - 23).toNat = l by omega]
theorem KU_27 {Z : ZT} {l : Nat} (h : l < 4) : KU Z (27 + (l : Int)) = Z 108 (4 + l) := by
  unfold KU
  rw [if_neg (by omega), if_neg (by omega), if_neg (by omega), if_neg (by omega), if_neg (by omega), if_neg (by omega), if_pos (by omega), show ((27 : Int) + l - 27).toNat = l by omega]
theorem KU_31 {Z : ZT} {l : Nat} (h : l < 80) : KU Z (31 + (l : Int)) = Z 109 (80 + l) := by
  unfold KU
  rw [if_neg (by omega), if_neg (by omega), if_neg (by omega), if_neg (by omega), if_neg (by omega), if_neg (by omega), if_neg (by omega), if_pos (by omega), show ((31 : Int) + l - 31).toNat = l by omega]
theorem KU_111 {Z : ZT} {l : Nat} (h : l < 80) : KU Z (111 + (l : Int)) = Z 110 (80 + l) := by
  unfold KU
  rw [if_neg (by omega), if_neg (by omega), if_neg (by omega), if_neg (by omega), if_neg (by omega), if_neg (by omega), if_neg (by omega), if_neg (by omega), if_pos (by omega), show ((111 : Int) + l - 111).toNat = l by omega]
theorem KU_191 {Z : ZT} {l : Nat} (h : l < 80) : KU Z (191 + (l : Int)) = Z 111 (80 + l) := by
  unfold KU
  rw [if_neg (by omega), if_neg (by omega), if_neg (by omega), if_neg (by omega), if_neg (by omega), if_neg (by omega), if_neg (by omega), if_neg (by omega), if_neg (by omega), show ((191 : Int) + l - 191).toNat = l by omega]
theorem RD_PN {b : Int → Int} {len x : Int} {m : Nat} {Zr Zm : ZT} (hr : RDR b len m x) (h : RDL b Zr m) (g : RDM b Zm m) (hu : Zr 8 1 ≤ 80) : PNR Zr 8 (KU Zm) := by
  obtain ⟨hO, -⟩ := hr
  obtain ⟨⟨h0, h04⟩, h1, h2, h3, h4⟩ := h
  obtain ⟨⟨g0, -⟩, g1, g2, g4⟩ := g
  have hpl : ∀ l : Nat, l < 4 → Zr 10 l = (lsS b m).2.1 l := fun l hl => by
    rw [← h2]
    unfold plC
    rw [if_pos (by omega)]
    congr 1
  have hpm : ∀ l : Nat, l < 4 → (0 ≤ Zm 104 (4 + l) ∧ Zm 104 (4 + l) = (lsS b m).2.1 l ∨ Zm 104 (4 + l) < 0 ∧ (lsS b m).2.1 l = -1) := fun l hl => by
    have e : plM Zm l = (lsS b m).2.1 l := congrFun g2 l
    unfold plM at e
    rw [if_pos (by omega), show ((l : Int)).toNat = l by omega] at e
    by_cases hq : 0 ≤ Zm 104 (4 + l)
    · rw [if_pos hq] at e
      exact Or.inl ⟨hq, e⟩
    · rw [if_neg hq] at e
      exact Or.inr ⟨by omega, e.symm⟩
  have hus : 0 ≤ Zr 8 1 := by
    rcases m with _ | m
    · rw [h1]
      exact Int.le_refl 0
    · have q := h4 m (by omega)
      have := q.2.2.2.2.2.2.2.1
      have := q.2.2.2.2.2.2.2.2.1
      have := q.2.2.2.2.2.2.2.2.2
      omega
  have hlet : ∀ l : Nat, l < 4 → 0 ≤ Zr 10 l → ∃ i : Nat, i < m ∧ Zr 10 l = i ∧ (l : Int) = b (lsS b i).1 - 97 := fun l hl hq => by
    rw [hpl l hl] at hq ⊢
    exact lsS_at m l hq
  have hT : ∀ (i j : Nat), i < m → (j : Int) < (lnT b (lsS b i).2.1 (lsS b i).1).2.2 → tmB b (lsS b i).2.1 (tp b ((lsS b i).1 + 2) j) = -1 ∧ 0 ≤ tp b ((lsS b i).1 + 2) j := fun i j hi hj => by
    have hp := lsS_ge i (fun k hk => hO k (by omega))
    have q := lnB_T (hO i hi).2 hp
    have q2 := tp_ge b ((lsS b i).1 + 2) j
    exact ⟨tsC_ok b (lsS b i).2.1 100 ((lsS b i).1 + 2) 0 q j (by have e : (lnT b (lsS b i).2.1 (lsS b i).1).2.2 = (tsC b (lsS b i).2.1 100 ((lsS b i).1 + 2) 0).2.2 := rfl; omega), by omega⟩
  have hterm : ∀ (i t : Nat), i < m → (lsS b i).2.2 ≤ t → (t : Int) < (lsS b i).2.2 + (lnT b (lsS b i).2.1 (lsS b i).1).2.2 → t < 80 ∧ ∃ p : Int, tmB b (lsS b i).2.1 p = -1 ∧ 0 ≤ p ∧ Zr 15 t = tmF b p ∧ Zr 16 t = tmN b p ∧ Zr 17 t = tmM b p ∧ Zm 109 (80 + t) = tmF b p ∧ Zm 110 (80 + t) = mN (tmN b p) ∧ Zm 111 (80 + t) = mN (tmM b p) := fun i t hi h5 h6 => by
    obtain ⟨-, -, -, -, -, -, a7, a8, a9, a10⟩ := h4 i hi
    obtain ⟨-, -, -, -, -, -, -, b8, b9, b10, b11⟩ := g4 i hi
    have hj := hT i (t - (lsS b i).2.2.toNat) hi (by omega)
    have q1 := a7 (t - (lsS b i).2.2.toNat) (by omega)
    have q2 := b8 (t - (lsS b i).2.2.toNat) (by omega)
    rw [show (lsS b i).2.2.toNat + (t - (lsS b i).2.2.toNat) = t by omega] at q1
    rw [show 80 + (lsS b i).2.2.toNat + (t - (lsS b i).2.2.toNat) = 80 + t by omega] at q2
    exact ⟨by omega, _, hj.1, hj.2, q1.1, q1.2.1, q1.2.2, q2.1, q2.2.1, q2.2.2⟩
  refine ⟨⟨by rw [h0]; show (m : Int) = Zm 100 8; omega, by omega, by omega, hus, hu⟩, fun l hl => ?_, fun t ht => ?_, h3, fun k hk => ?_, fun l t hl hp h5 h6 => ?_⟩
  · rw [KU_11 hl, KU_15 hl, KU_19 hl, KU_23 hl, KU_27 hl]
    show Zr 10 l < 0 ∧ _ ∨ (0 ≤ Zr 10 l ∧ Zr 10 l < Zr 8 0) ∧ _ = Zr 10 l ∧ _ = Zr 11 l ∧ _ = Zr 12 l ∧ _ = Zr 13 l ∧ _ = Zr 14 l ∧ 0 ≤ Zr 11 l ∧ 0 ≤ Zr 12 l ∧ Zr 11 l + Zr 12 l ≤ Zr 8 1
    have e1 := hpl l hl
    have e2 := hpm l hl
    by_cases hq : Zr 10 l < 0
    · exact Or.inl ⟨hq, by omega⟩
    · obtain ⟨i, i1, i2, i3⟩ := hlet l hl (by omega)
      obtain ⟨-, a2, a3, a4, a5, a6, -, a8, a9, a10⟩ := h4 i i1
      obtain ⟨-, b1, b2, b3, b4, b5, b6, -⟩ := g4 i i1
      rw [← i3, show ((l : Int)).toNat = l by omega] at a2 a3 a4 a5 a6
      rw [← i3, show (4 + (l : Int)).toNat = 4 + l by omega] at b2 b3 b4 b5 b6
      exact Or.inr ⟨⟨by omega, by omega⟩, by omega, by omega, by omega, by omega, by omega, by omega, by omega, by omega⟩
  · have ht' : (t : Int) < Zr 8 1 := ht
    obtain ⟨i, i1, i2, i3⟩ := lsS_t m t (by omega) (by rw [← h1]; exact ht')
    obtain ⟨t80, p, p1, p2, p3, p4, p5, p6, p7, p8⟩ := hterm i t i1 i2 i3
    rw [KU_31 t80, KU_111 t80, KU_191 t80]
    show _ = Zr 15 t ∧ _ = mN (Zr 16 t) ∧ NC (Zr 16 t) ∧ _ = mN (Zr 17 t) ∧ (Zr 17 t = -1 ∨ NC (Zr 17 t))
    have ok := tmB_ok p1 p2
    refine ⟨by rw [p6, p3], by rw [p7, p4], by rw [p4]; exact (nmV_c ok.1).1, by rw [p8, p5], ?_⟩
    rw [p5]
    unfold tmM
    by_cases hd : b (tmR b p) = 46
    · rw [if_pos hd]
      exact Or.inr (nmV_c (ok.2 hd)).1
    · rw [if_neg hd]
      exact Or.inl rfl
  · have hk' : (k : Int) < Zr 8 0 := hk
    have hkm : k < m := by omega
    obtain ⟨b0, b1, b2, -⟩ := g4 k hkm
    rw [KU_7 (by omega), b1]
    refine ⟨by omega, ?_⟩
    have e : 11 + (b (lsS b k).1 - 97) = 11 + (((b (lsS b k).1 - 97).toNat : Nat) : Int) := by omega
    rw [e, KU_11 (by omega), show 4 + (b (lsS b k).1 - 97).toNat = (4 + (b (lsS b k).1 - 97)).toNat by omega]
    exact b2
  · have hp' : 0 ≤ Zr 10 l := hp
    have h5' : Zr 11 l ≤ t := h5
    have h6' : (t : Int) < Zr 11 l + Zr 12 l := h6
    obtain ⟨i, i1, i2, i3⟩ := hlet l hl hp'
    obtain ⟨-, a2, a3, a4, -⟩ := h4 i i1
    rw [← i3, show ((l : Int)).toNat = l by omega] at a2 a3 a4
    obtain ⟨t80, p, p1, p2, p3, p4, p5, p6, p7, p8⟩ := hterm i t i1 (by omega) (by omega)
    have ok := tmB_ok p1 p2
    have em := hpm l hl
    have el := hpl l hl
    have key : ∀ c : Int, 0 ≤ c → c ≤ 3 → 0 ≤ (lsS b i).2.1 c → 0 ≤ KU Zm (11 + c) ∧ KU Zm (11 + c) < KU Zm (11 + (l : Int)) := fun c c0 c3 hc => by
      have st := lsS_stay (len := len) hc m (by omega) hO
      obtain ⟨i', j1, j2, -⟩ := lsS_at i c hc
      have e : 11 + c = 11 + ((c.toNat : Nat) : Int) := by omega
      have ec := hpm c.toNat (by omega)
      rw [show ((c.toNat : Nat) : Int) = c by omega] at ec
      rw [e, KU_11 (by omega), KU_11 hl]
      omega
    rw [KU_111 t80, KU_191 t80, p7, p8]
    refine ⟨fun hm => ?_, fun hm => ?_⟩
    · have q := (nmV_c ok.1).2 hm
      have q0 := ok.1.1
      have e : mN (tmN b p) - 20 = b (tmQ b p) - 97 := q.1
      rw [e]
      exact key _ (by omega) (by omega) q.2
    · unfold tmM at hm ⊢
      by_cases hd : b (tmR b p) = 46
      · rw [if_pos hd] at hm ⊢
        have q := (nmV_c (ok.2 hd)).2 hm
        have q0 := (ok.2 hd).1
        rw [q.1]
        exact key _ (by omega) (by omega) q.2
      · rw [if_neg hd] at hm
        exact absurd hm (by decide)
