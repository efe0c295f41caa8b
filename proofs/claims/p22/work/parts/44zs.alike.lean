/-! ===== numbers: class's and model's rows alike ===== -/
/-- two environments that say the same of cells below N -/
def ENQ (e e' : NE) (N : Nat) : Prop := (∀ c s : Nat, c < N → s ≤ 4 → e.nxt c s = e'.nxt c s) ∧ (∀ l : Nat, l < 4 → e.rim l = e'.rim l) ∧ ∀ l : Nat, l < 4 → e.pl l < 0 ∧ e'.pl l < 0 ∨ (0 ≤ e.pl l ∧ e'.pl l = e.pl l) ∧ (e'.tf l = e.tf l ∧ e'.tm l = e.tm l ∧ e'.dv l = e.dv l ∧ e'.nr l = e.nr l) ∧ 0 ≤ e.tf l ∧ ∀ t : Nat, e.tf l ≤ t → (t : Int) < e.tf l + e.tm l → e'.fa t = e.fa t ∧ e'.nm t = e.nm t ∧ e'.sc t = e.sc t
theorem nmW_e {e e' : NE} {N c s : Nat} {R : Nat → Int} {a : Int} (q : ENQ e e' N) (hc : c < N) (h0 : 0 ≤ a) (h1 : a ≤ 23) : nmW e' R a s c = nmW e R a s c := by
  unfold nmW
  by_cases h20 : 20 ≤ a
  · rw [if_pos h20, if_pos h20]
  · rw [if_neg h20, if_neg h20, q.1 c (a / 4).toNat hc (by omega), q.2.1 (a % 4).toNat (by omega)]
theorem tmV_e {e e' : NE} {N c s l t : Nat} {R : Nat → Int} (q : ENQ e e' N) (w : NEW e N) (hc : c < N) (hl : l < 4) (hp : 0 ≤ e.pl l) (t1 : e.tf l ≤ t) (t2 : (t : Int) < e.tf l + e.tm l) : tmV e' R t s c = tmV e R t s c := by
  rcases q.2.2 l hl with g | ⟨-, -, -, g⟩
  · omega
  obtain ⟨g1, g2, g3⟩ := g t t1 t2
  obtain ⟨⟨a0, a1, -⟩, b0, b1, -⟩ := w.2 l t hl hp t1 t2
  unfold tmV
  rw [g1, g2, g3, nmW_e q hc a0 a1]
  by_cases hs : e.sc t < 0
  · rw [if_pos hs, if_pos hs, if_neg (fun z => by omega : ¬(0 ≤ e.sc t ∧ nmW e' R (e.sc t) s c = 2000000000)), if_neg (fun z => by omega : ¬(0 ≤ e.sc t ∧ nmW e R (e.sc t) s c = 2000000000))]
  · rw [nmW_e q hc (by omega) b1]
theorem lnV_e {e e' : NE} {N c s l : Nat} {R : Nat → Int} (q : ENQ e e' N) (w : NEW e N) (hc : c < N) (hl : l < 4) (hp : 0 ≤ e.pl l) (h0 : 0 ≤ e.tf l) : ∀ k : Nat, (k : Int) ≤ e.tm l → lnV e' R (e.tf l).toNat s c k = lnV e R (e.tf l).toNat s c k
  | 0, _ => rfl
  | k + 1, hk => by
    have ih := lnV_e (R := R) (s := s) q w hc hl hp h0 k (by omega)
    have g := tmV_e (R := R) (s := s) (t := (e.tf l).toNat + k) q w hc hl hp (by omega) (by omega)
    show (match lnV e' R (e.tf l).toNat s c k, tmV e' R ((e.tf l).toNat + k) s c with
      | some a, some b => some (w64 (a + b))
      | _, _ => none) = _
    rw [ih, g]
    rfl
theorem mkV_e {e e' : NE} {N c s l : Nat} {R : Nat → Int} (q : ENQ e e' N) (w : NEW e N) (hm : ∀ l : Nat, l < 4 → 0 ≤ e.pl l → 0 ≤ e.tm l) (hc : c < N) (hl : l < 4) : mkV e' R s c l = mkV e R s c l := by
  unfold mkV
  rcases q.2.2 l hl with ⟨g1, g2⟩ | ⟨⟨g0, g1⟩, ⟨g2, g3, g4, g5⟩, g6, g⟩
  · rw [if_pos g1, if_pos g2]
  · have hm' := hm l hl g0
    rw [if_neg (by omega), if_neg (by omega), g2, g3, lnV_e q w hc hl g0 g6 _ (by omega)]
    have e1 : ∀ S : Int, dvV e' l S = dvV e l S := fun S => by
      unfold dvV
      rw [g4, g5]
    cases lnV e R (e.tf l).toNat s c (e.tm l).toNat with
    | none => rfl
    | some S => exact e1 S
theorem SOL_q {e e' : NE} {sl sl' : Nat → Nat → Nat → Int → Int} {N d : Nat} {F F' R : Nat → Int} (h : SOL e sl N F R d) (q : ENQ e e' N) (w : NEW e N) (hm : ∀ l : Nat, l < 4 → 0 ≤ e.pl l → 0 ≤ e.tm l) (hs : ∀ s c l v, sl s c l v = sl' s c l v) (hF : ∀ c l : Nat, c < N → l < 4 → F (4 * c + l) = F' (4 * c + l)) : SOL e' sl' N F' R d := by
  refine ⟨fun c l hc hl => ?_, fun s c l h1 h2 hc hl => ?_⟩
  · rw [← hF c l hc hl]
    exact h.1 c l hc hl
  · have g := h.2 s c l h1 h2 hc hl
    unfold FV at g ⊢
    rw [mkV_e q w hm hc hl, ← hs]
    exact g
theorem flU_e {e e' : NE} {N c l k : Nat} {F F' : Nat → Int} (q : ENQ e e' N) (w : NEW e N) (hc : c < N) (hl : l < 4) (hk : k ≤ 4) (hF : ∀ c l : Nat, c < N → l < 4 → F (4 * c + l) = F' (4 * c + l)) : flU e' F' c l k = flU e F c l k := by
  unfold flU
  rw [← q.1 c k hc hk, ← q.2.1 l hl]
  by_cases hn : e.nxt c k < 0
  · rw [if_pos hn, if_pos hn]
  · have g := w.1 c k hc hk
    rw [if_neg hn, if_neg hn, hF _ l (by omega) hl]
theorem fiV_e {e e' : NE} {N c l : Nat} {F F' : Nat → Int} (q : ENQ e e' N) (w : NEW e N) (hc : c < N) (hl : l < 4) (hF : ∀ c l : Nat, c < N → l < 4 → F (4 * c + l) = F' (4 * c + l)) : fiV e' F' c l = fiV e F c l := by
  have u : ∀ k : Nat, k ≤ 4 → flU e' F' c l k = flU e F c l k := fun k hk => flU_e q w hc hl hk hF
  have m : ∀ k : Nat, k ≤ 4 → flM e' F' c l k = flM e F c l k ∧ flS e' F' c l k = flS e F c l k := by
    intro k
    induction k with
    | zero => exact fun _ => ⟨rfl, rfl⟩
    | succ k ih =>
      intro hk
      obtain ⟨i1, i2⟩ := ih (by omega)
      refine ⟨?_, ?_⟩
      · show (if _ then _ else _) = (if _ then _ else _)
        rw [u (k + 1) hk, i1]
      · show (if _ then _ else _) = (if _ then _ else _)
        rw [u (k + 1) hk, i2]
  unfold fiV fgV
  rw [(m 4 (by decide)).1, (m 4 (by decide)).2, hF c l hc hl]
/-- what the relation's parts give -/
theorem PN_plw {Z : ZT} (h : PNR Z 19 (KF Z)) (he : E1 Z) (hf : ∀ t : Nat, (t : Int) < Z 19 1 → -999 ≤ Z 26 t ∧ Z 26 t ≤ 999) : PLW Z := by
  have hu := h.1
  refine ⟨fun l hl hp => ?_, ⟨hu.2.2.2.1, hu.2.2.2.2⟩, fun t ht => ?_⟩
  · rcases PN_at h hl with ⟨q, -⟩ | ⟨-, e4, e5, e6, e7, -, s0, n0, hs, -⟩
    · omega
    · have q := he l hl (by omega)
      exact ⟨⟨s0, n0, hs⟩, by omega, by omega⟩
  · obtain ⟨-, -, q3, -, q5⟩ := PN_tm h ht
    exact ⟨q3, q5, hf t ht⟩
theorem PN_nw {Z : ZT} (h : PNR Z 19 (KF Z)) {l t : Nat} (hl : l < 4) (hp : 0 ≤ Z 21 l) (h1 : Z 22 l ≤ t) (h2 : (t : Int) < Z 22 l + Z 23 l) : NWD (KF Z) (Z 110 t) (Z 104 l) ∧ NWD (KF Z) (Z 111 t) (Z 104 l) := by
  rcases PN_at h hl with ⟨q, -⟩ | ⟨-, e4, e5, e6, e7, -, s0, n0, hs, hu⟩
  · omega
  have q := h.2.2.2.2.2 l t hl hp h1 h2
  rw [KFp_111 (by omega), KFp_191 (by omega), KFp_11 hl] at q
  exact q
theorem NWD_m {Z : ZT} {m i : Int} (h : NWD (KF Z) m i) (hm : m ≤ 23) (h20 : 20 ≤ m) : 0 ≤ Z 104 (m - 20).toNat ∧ Z 104 (m - 20).toNat < i := by
  have q := h h20
  rw [show (11 : Int) + (m - 20) = 11 + (((m - 20).toNat : Nat) : Int) by omega, KFp_11 (by omega)] at q
  exact q
theorem PN_nwm {Z : ZT} (h : PNR Z 19 (KF Z)) (hI : CI Z) : NWM Z := by
  intro l t hl hp h1 h2
  rcases PN_at h hl with ⟨-, q⟩ | ⟨hq, e4, e5, e6, e7, -, s0, n0, hs, hu⟩
  · omega
  have q := PN_nw h (t := t) hl hq (by omega) (by omega)
  exact ⟨fun g => NWD_m q.1 (hI 110 t 0 23 rfl).2 g, fun g => NWD_m q.2 (hI 111 t (-1) 23 rfl).2 g⟩
theorem PN_nwc {Z : ZT} (h : PNR Z 19 (KF Z)) (hI : CI Z) : NWC Z := by
  intro l t hl hp h1 h2
  rcases PN_at h hl with ⟨q, -⟩ | ⟨hq, e4, e5, e6, e7, -, s0, n0, hs, hu⟩
  · omega
  have q := PN_nw h (t := t) hl hp h1 h2
  obtain ⟨-, t1, -, t3, -⟩ := PN_tm h (t := t) (by omega)
  have r1 := (hI 110 t 0 23 rfl).2
  have r2 := (hI 111 t (-1) 23 rfl).2
  rw [t1] at q r1
  rw [t3] at q r2
  have back : ∀ m : Int, m ≤ 23 → 20 ≤ m → 0 ≤ Z 104 (m - 20).toNat ∧ Z 104 (m - 20).toNat < Z 104 l → 0 ≤ Z 21 (m - 20).toNat ∧ Z 21 (m - 20).toNat < Z 21 l := fun m m1 m2 g => by
    rcases PN_at h (l := (m - 20).toNat) (by omega) with ⟨a, b⟩ | ⟨a, b, -⟩
    · omega
    · omega
  exact ⟨fun g => back _ r1 g (NWD_m q.1 r1 g), fun g => back _ r2 g (NWD_m q.2 r2 g)⟩
theorem PN_lno {Z : ZT} (h : PNR Z 19 (KF Z)) : LNO Z := by
  have k5 := h.2.2.2.2.1
  have o := h.2.2.2.1
  have h0 : Z 19 0 = Z 100 7 := h.1.1.trans KFp_0
  have h4 := h.1.2.2.1
  have first : ∀ k : Nat, (k : Int) < Z 100 7 → (0 ≤ Z 103 k ∧ Z 103 k ≤ 3) ∧ Z 104 (Z 103 k).toNat = k := fun k hk => by
    have q := k5 k (by omega)
    rw [KFp_7 (by omega)] at q
    refine ⟨q.1, ?_⟩
    have q2 := q.2
    rw [show (11 : Int) + Z 103 k = 11 + (((Z 103 k).toNat : Nat) : Int) by omega, KFp_11 (by omega)] at q2
    exact q2
  refine ⟨first, fun l hl hp => ?_⟩
  rcases PN_at h hl with ⟨-, q⟩ | ⟨hq, e4, -⟩
  · omega
  have pb := h.2.1 l hl
  simp only [Nat.reduceAdd] at pb
  have hlt : Z 104 l < Z 100 7 := by omega
  refine ⟨hlt, ?_⟩
  have f := first (Z 104 l).toNat (by omega)
  have g := PN_at h (l := (Z 103 (Z 104 l).toNat).toNat) (by omega)
  have f2 := f.2
  obtain ⟨t0, a1, a2, a3, -⟩ := o.1 l hl
  obtain ⟨t1, b1, b2, b3, -⟩ := o.1 (Z 103 (Z 104 l).toNat).toNat (by omega)
  simp only [Nat.reduceAdd] at a2 a3 b2 b3
  have a3' := a3 hq
  have b3' := b3 (by omega)
  have e : t0 = t1 := by omega
  rw [← e, a2] at b2
  omega
theorem PN_plh {Z : ZT} (h : PNR Z 19 (KF Z)) (he : E1 Z) (hf : ∀ t : Nat, (t : Int) < Z 19 1 → -999 ≤ Z 26 t ∧ Z 26 t ≤ 999) : PLH Z := by
  intro l hl hp
  rcases PN_at h hl with ⟨-, q⟩ | ⟨hq, e4, e5, e6, e7, -, s0, n0, hs, hu⟩
  · omega
  refine ⟨by omega, he l hl hp, fun t t1 t2 => ?_⟩
  have q := (PN_tm h (t := t) (by omega)).1
  rw [q]
  exact hf t (by omega)
theorem NRC_nrw {Z : ZT} (h : NR Z 3 (Z 2 0) (Z 2 1) (Z 18 3) (Z 2 2)) (hd : Z 2 2 = Z 2 0 * Z 2 1) (hI : CI Z) : NRW Z 2 := by
  intro c hc
  have w := hI 2 0 2 6 rfl
  have w' := hI 2 1 2 6 rfl
  refine ⟨?_, fun s hs => ?_⟩
  · have q := h c hc 0 (by decide)
    rw [Nat.add_zero] at q
    exact q
  · have q := h c hc s hs
    have lt := nx_lt (W := Z 2 0) (H := Z 2 1) (e := Z 18 3) (c := c) (s := s) (by omega) (by omega) (by omega) hs
    have ge := nx_ge (W := Z 2 0) (H := Z 2 1) (e := Z 18 3) (c := c) (s := s) (by omega) (by omega) (by omega) hs
    show -1 ≤ Z 3 (5 * c + s) ∧ Z 3 (5 * c + s) < Z 2 2
    rw [q, hd]
    exact ⟨ge, lt⟩
theorem EN_of {Z ZA : ZT} (hn : NR Z 3 (Z 2 0) (Z 2 1) (Z 18 3) (Z 2 2)) (hN : (Z 2 2).toNat ≤ 36) (h0 : Z 2 0 = ZA 100 0) (h1 : Z 2 1 = ZA 100 1) (h2 : Z 18 3 = ZA 100 2) (hr : ∀ l : Nat, l < 4 → Z 30 l = ZA 101 l) (hp : PNR Z 19 (KF Z)) (hA : ∀ o, 103 ≤ o → o ≤ 111 → ZA o = Z o) : ENQ (envN Z 2) (envW ZA) (Z 2 2).toNat := by
  refine ⟨fun c s hc hs => ?_, hr, fun l hl => ?_⟩
  · show Z 3 (5 * c + s) = nx (ZA 100 0) (ZA 100 1) (ZA 100 2) c s
    rw [hn c (by omega) s hs, h0, h1, h2]
  · have q := PN_at hp hl
    show Z 21 l < 0 ∧ ZA 104 l < 0 ∨ (0 ≤ Z 21 l ∧ ZA 104 l = Z 21 l) ∧ (ZA 105 l = Z 22 l ∧ ZA 106 l = Z 23 l ∧ ZA 107 l = Z 24 l ∧ ZA 108 l = Z 25 l) ∧ 0 ≤ Z 22 l ∧ ∀ t : Nat, Z 22 l ≤ t → (t : Int) < Z 22 l + Z 23 l → ZA 109 t = Z 26 t ∧ ZA 110 t = mN (Z 27 t) ∧ ZA 111 t = mN (Z 28 t)
    rw [hA 104 (by omega) (by omega), hA 105 (by omega) (by omega), hA 106 (by omega) (by omega), hA 107 (by omega) (by omega), hA 108 (by omega) (by omega), hA 109 (by omega) (by omega), hA 110 (by omega) (by omega), hA 111 (by omega) (by omega)]
    rcases q with q | ⟨q0, q1, q2, q3, q4, q5, s0, n0, hs, hu⟩
    · exact Or.inl q
    · refine Or.inr ⟨⟨q0, q1⟩, ⟨q2, q3, q4, q5⟩, s0, fun t t1 t2 => ?_⟩
      obtain ⟨m1, m2, -, m4, -⟩ := PN_tm hp (t := t) (by omega)
      exact ⟨m1, m2, m4⟩
/-- factors in their ranges -/
def RGF (Z : ZT) (d : Nat) : Prop := ∀ t : Nat, (t : Int) < Z d 1 → -999 ≤ Z (d + 7) t ∧ Z (d + 7) t ≤ 999
theorem tmF_r {b pl : Int → Int} {p : Int} (h : tmB b pl p = -1) (hp : 0 ≤ p) : -999 ≤ tmF b p ∧ tmF b p ≤ 999 := by
  have h1 : p ≤ tmP b p := by
    unfold tmP
    split <;> omega
  unfold tmB at h
  by_cases c1 : (48 ≤ b (tmP b p) ∧ b (tmP b p) ≤ 57) ∧ ¬nuOK b (tmP b p) 999
  · rw [if_pos c1] at h
    omega
  · have h0 := dgV_nn b 200 (tmP b p) 0 (Int.le_refl 0)
    have e0 : nuV b (tmP b p) = dgV b 200 (tmP b p) 0 := rfl
    unfold tmF tmS
    by_cases hf : 48 ≤ b (tmP b p) ∧ b (tmP b p) ≤ 57
    · have ok : nuOK b (tmP b p) 999 := Decidable.byContradiction (fun z => c1 ⟨hf, z⟩)
      have ok2 := ok.2.2
      rw [if_pos hf]
      split <;> omega
    · rw [if_neg hf]
      split <;> omega
theorem RD_FR {b : Int → Int} {len x : Int} {m : Nat} {Zr : ZT} (hr : RDR b len m x) (h : RDL b Zr m) : RGF Zr 8 := by
  obtain ⟨hO, -⟩ := hr
  obtain ⟨-, h1, -, -, h4⟩ := h
  intro t ht
  obtain ⟨i, i1, i2, i3⟩ := lsS_t m t (by omega) (by rw [← h1]; exact ht)
  obtain ⟨-, -, -, -, -, -, a7, a8, a9, a10⟩ := h4 i i1
  have hp := lsS_ge i (fun k hk => hO k (by omega))
  have q := lnB_T (hO i i1).2 hp
  have q2 := tp_ge b ((lsS b i).1 + 2) (t - (lsS b i).2.2.toNat)
  have hj := tsC_ok b (lsS b i).2.1 100 ((lsS b i).1 + 2) 0 q (t - (lsS b i).2.2.toNat) (by
    have e : (lnT b (lsS b i).2.1 (lsS b i).1).2.2 = (tsC b (lsS b i).2.1 100 ((lsS b i).1 + 2) 0).2.2 := rfl
    omega)
  have q1 := a7 (t - (lsS b i).2.2.toNat) (by omega)
  rw [show (lsS b i).2.2.toNat + (t - (lsS b i).2.2.toNat) = t by omega] at q1
  show -999 ≤ Zr 15 t ∧ Zr 15 t ≤ 999
  rw [q1.1]
  exact tmF_r hj (by omega)
theorem RGF_c {Z Z0 : ZT} {d s : Nat} (tk : TKP Z Z0 d s) (h : RGF Z0 s) : RGF Z d := by
  obtain ⟨t0, t1, c1, c2, c3, c4, c5, c6, c7, c8, c9⟩ := tk
  intro t ht
  rw [t1] at ht
  rw [c7 t ht]
  exact h t ht
theorem RGF_o {Z Z' : ZT} {d : Nat} (h1 : Z' d 1 = Z d 1) (h7 : Z' (d + 7) = Z (d + 7)) (h : RGF Z d) : RGF Z' d := by
  unfold RGF at h ⊢
  rw [h1, h7]
  exact h
/-- what both sides make of the same -/
theorem rows_u {e e' : NE} {sl sl' : Nat → Nat → Nat → Int → Int} {N d d' : Nat} {F F' R R' : Nat → Int} (h : SOL e sl N F R d) (g : SOL e' sl' N F' R' d') (q : ENQ e e' N) (w : NEW e N) (w' : NEW e' N) (hm : ∀ l : Nat, l < 4 → 0 ≤ e.pl l → 0 ≤ e.tf l ∧ 0 ≤ e.tm l) (hm' : ∀ l : Nat, l < 4 → 0 ≤ e'.pl l → 0 ≤ e'.tf l ∧ 0 ≤ e'.tm l) (hs : ∀ s c l v, sl s c l v = sl' s c l v) (hF : ∀ c l : Nat, c < N → l < 4 → F (4 * c + l) = F' (4 * c + l)) {s c l : Nat} (h1 : s ≤ d) (h2 : s ≤ d') (hc : c < N) (hl : l < 4) : R (144 * s + 4 * c + l) = R' (144 * s + 4 * c + l) :=
  SOL_u (SOL_le (d' := s) (SOL_q h q w (fun l hl hp => (hm l hl hp).2) hs hF) h1) (SOL_le (d' := s) g h2) w' hm' s (Nat.le_refl s) c l hc hl
